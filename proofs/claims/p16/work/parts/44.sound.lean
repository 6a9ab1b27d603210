/-! the reader of many states is right -/
section SP
variable {J : zh → Prop} {τ0 : List Nat} {h0 : zh} {t0 : Nat} {ρ : List Int} {ν τ : List Nat} {h : zh} {t : Nat} {β : Type} {y : List β}
theorem avs_ok {w : Nat × Int} {S : aS} {kk : aS → Option (List β)} {r : Int} (hM : aM J τ0 h0 t0 S ρ ν τ h t) (hr : ρ[w.1]? = some r) : ∀ {n : Nat} {lo : Int} {y : List β}, avs w S kk n lo = some y → lo ≤ r + w.2 → r + w.2 < lo + n → ∃ (S' : aS) (y' : List β), kk S' = some y' ∧ (∀ x ∈ y', x ∈ y) ∧ aM J τ0 h0 t0 S' ρ ν τ h t
  | 0, lo, y, e, h1, h2 => by
    exfalso
    have : ((0 : Nat) : Int) = 0 := rfl
    omega
  | n + 1, lo, y, e, h1, h2 => by
    have e : frcZ lo (fun lo => acat (arfE w (0, lo) S kk) (avs w S kk n (lo + 1))) = some y := e
    rw [frcZ_eq] at e
    obtain ⟨y1, y2, e1, e2, s1, s2⟩ := acat_ok e
    by_cases hq : r + w.2 = lo
    · obtain ⟨S', e3, hM'⟩ := arfE_ok (b := (0, lo)) e1 hM hr hM.1.1 (by simp only; omega)
      exact ⟨S', y1, e3, s1, hM'⟩
    · obtain ⟨S', y', e3, e4, e5⟩ := avs_ok hM hr e2 (by omega) (by
        have : ((n + 1 : Nat) : Int) = (n : Int) + 1 := rfl
        omega)
      exact ⟨S', y', e3, fun x hx => s2 x (e4 x hx), e5⟩
theorem aspl_ok {ls : List (Option av)} {cs : List (Option zv)} {kk : aS → Option (List β)} (hl : alM ρ ν ls cs) : ∀ {sp : List (Nat × Int × Nat)} {S : aS} {y : List β}, aspl ls kk sp S = some y → aM J τ0 h0 t0 S ρ ν τ h t → ∃ (S' : aS) (y' : List β), kk S' = some y' ∧ (∀ x ∈ y', x ∈ y) ∧ aM J τ0 h0 t0 S' ρ ν τ h t
  | [], S, y, e, hM => ⟨S, y, e, fun _ hx => hx, hM⟩
  | f :: sp, S, y, e, hM => by
    have e : (match nth ls f.1 with
      | some (some (.inl w)) => acat (arfL 1 w (0, f.2.1) S (fun S' => aspl ls kk sp S')) (acat (arfL 0 (0, f.2.1 + Int.ofNat f.2.2) w S (fun S' => aspl ls kk sp S')) (avs w S (fun S' => aspl ls kk sp S') f.2.2 f.2.1))
      | _ => none) = some y := e
    rw [nth_eq] at e
    split at e
    · rename_i w hw
      obtain ⟨v, -, x, r, rfl, hr, hx⟩ := hl.2.1 _ _ hw
      obtain ⟨y1, y2, e1, e2, s1, s2⟩ := acat_ok e
      obtain ⟨y3, y4, e3, e4, s3, s4⟩ := acat_ok e2
      have hz : Int.ofNat f.2.2 = (f.2.2 : Int) := rfl
      by_cases c1 : r + w.2 < f.2.1
      · obtain ⟨S', e5, hM'⟩ := arfL_ok (d := 1) (b := (0, f.2.1)) e1 hM hr hM.1.1 (by simp only; omega)
        obtain ⟨S2, y', e6, e7, e8⟩ := aspl_ok hl e5 hM'
        exact ⟨S2, y', e6, fun x hx => s1 x (e7 x hx), e8⟩
      · by_cases c2 : f.2.1 + (f.2.2 : Int) ≤ r + w.2
        · obtain ⟨S', e5, hM'⟩ := arfL_ok (d := 0) (a := (0, f.2.1 + Int.ofNat f.2.2)) e3 hM hM.1.1 hr (by simp only; omega)
          obtain ⟨S2, y', e6, e7, e8⟩ := aspl_ok hl e5 hM'
          exact ⟨S2, y', e6, fun x hx => s2 x (s3 x (e7 x hx)), e8⟩
        · obtain ⟨S', y5, e5, e6, hM'⟩ := avs_ok hM hr e4 (by omega) (by omega)
          obtain ⟨S2, y', e7, e8, e9⟩ := aspl_ok hl e5 hM'
          exact ⟨S2, y', e7, fun x hx => s2 x (s4 x (e6 x (e8 x hx))), e9⟩
    · cases e
theorem apopn_ok : ∀ {n : Nat} {acc st args rest : List av} {va vs : List zv}, apopn n acc st = some (args, rest) → asM ρ ν acc va → asM ρ ν st vs → ∃ vargs vrest : List zv, zpop n va vs = some (vargs, vrest) ∧ asM ρ ν args vargs ∧ asM ρ ν rest vrest
  | 0, acc, st, args, rest, va, vs, e, h1, h2 => by
    have e : some (acc, st) = some (args, rest) := e
    cases e
    exact ⟨va, vs, rfl, h1, h2⟩
  | n + 1, acc, [], args, rest, va, vs, e, h1, h2 => by cases e
  | n + 1, acc, a :: st, args, rest, va, vs, e, h1, h2 => by
    obtain ⟨v, vs', rfl, h3, h4⟩ := asM_cons h2
    have e : apopn n (a :: acc) st = some (args, rest) := e
    obtain ⟨a1, a2, a3, a4, a5⟩ := apopn_ok (n := n) e (asM_mk h3 h1) h4
    exact ⟨a1, a2, a3, a4, a5⟩
theorem acatn_ok : ∀ {st : List av} {vs : List zv}, asM ρ ν st vs → zcat vs ≤ acatn st
  | [], [], _ => Nat.le_refl _
  | a :: st, v :: vs, h => by
    have h1 := acatn_ok h.2
    have h2 : (bif zisL v then 2 else 1) ≤ (bif aisL a then 2 else 1) := by
      cases ha : aisL a with
      | true => cases zisL v <;> decide
      | false => rw [aisL_no ha h.1]; exact Nat.le_refl _
    simp only [zcat, acatn, List.map_cons, List.sum_cons] at h1 ⊢
    omega
  | [], _ :: _, h => h.elim
  | _ :: _, [], h => h.elim
theorem aent_ok {args : List av} {vargs : List zv} {nL : Nat} {l0 : List (Option av)} (e : aent args nL = some l0) (hs : asM ρ ν args vargs) : ∃ c0 : List (Option zv), zent vargs nL = some c0 ∧ alM ρ ν l0 c0 := by
  unfold aent at e
  cases hb : args.all (fun a => !aisL a) && Nat.ble args.length nL with
  | false => rw [hb] at e; cases e
  | true =>
    rw [hb] at e
    simp only [cond_true, appK_eq] at e
    cases e
    simp only [Bool.and_eq_true] at hb
    have hlen := asM_len hs
    have hall : vargs.all (fun a => !zisL a) = true := by
      have aux : ∀ {st : List av} {vs : List zv}, asM ρ ν st vs → st.all (fun a => !aisL a) = true → vs.all (fun a => !zisL a) = true := by
        intro st
        induction st with
        | nil =>
          intro vs h1 _
          rw [asM_nil h1]
          rfl
        | cons a st ih =>
          intro vs h1 h2
          obtain ⟨v, t9, rfl, h3, h4⟩ := asM_cons h1
          simp only [List.all_cons, Bool.and_eq_true] at h2 ⊢
          exact ⟨by rw [aisL_no (by simpa using h2.1) h3]; rfl, ih h4 h2.2⟩
      exact aux hs hb.1
    refine ⟨vargs.map some ++ List.replicate (nL - vargs.length) none, ?_, ?_, fun i a hi => ?_, fun i v hi hn => ?_⟩
    · unfold zent
      rw [hall, hlen, hb.2]
      simp only [Bool.and_self, cond_true, appK_eq]
    · simp [hlen]
    · have hil : i < args.length := by
        rcases Nat.lt_or_ge i args.length with q | q
        · exact q
        · rw [List.getElem?_append_right (by simpa using q)] at hi
          have := List.eq_of_mem_replicate (List.mem_of_getElem? hi)
          cases this
      rw [List.getElem?_append_left (by simpa using hil), List.getElem?_map] at hi
      cases ha : args[i]? with
      | none => rw [ha] at hi; cases hi
      | some b =>
        rw [ha] at hi
        cases hi
        obtain ⟨v, e1, e2⟩ := asM_at hs ha
        exact ⟨v, by rw [List.getElem?_append_left (by simp; omega), List.getElem?_map, e1]; rfl, e2⟩
    · rcases Nat.lt_or_ge i args.length with q | q
      · rw [List.getElem?_append_left (by simpa using q), List.getElem?_map, List.getElem?_eq_getElem q] at hn
        cases hn
      · rw [List.getElem?_append_right (by simp; omega)] at hi
        have := List.eq_of_mem_replicate (List.mem_of_getElem? hi)
        cases this
theorem aargs_ok {S : aS} {r : zr} {args : List av} {vargs : List zv} (e : aargs S r args = true) (hM : aM J τ0 h0 t0 S ρ ν τ h t) (hs : asM ρ ν args vargs) : zargs r vargs h = true := by
  unfold aargs at e
  unfold zargs
  cases h1 : Nat.beq r.1 0 with
  | true =>
    rw [h1] at e
    simp only [cond_true] at e ⊢
    split at e
    · rename_i q9 tl
      obtain ⟨v, vs', rfl, h3, h4⟩ := asM_cons hs
      simp only [Bool.and_eq_true] at e
      have l1 := Nat.le_of_ble_eq_true e.2.1
      have l2 := bltT.mp e.2.2
      have hv : v = .inl (some (2000000 + (q9 - 10))) := by
        rcases h3 with ⟨h9, -⟩ | ⟨h9, -⟩ | ⟨h9, -⟩ | ⟨-, -, h9⟩ | ⟨h9, -⟩
        · omega
        · omega
        · omega
        · exact h9
        · omega
      subst hv
      show (bif Nat.beq r.2.2.1 50 then Nat.ble 2000000 (2000000 + (q9 - 10)) && Nat.blt (2000000 + (q9 - 10)) 3000000 else _) = true
      rw [e.1, Nat.ble_eq_true_of_le (Nat.le_add_right _ _), bltT.mpr (show 2000000 + (q9 - 10) < 3000000 by omega)]
      rfl
    · rename_i a tl hno
      obtain ⟨v, vs', rfl, h3, h4⟩ := asM_cons hs
      simp only [Bool.and_eq_true] at e
      have hc := e.2
      split at hc
      · rename_i u hu
        rcases a with w | n | k9
        · cases hu
        · obtain ⟨q, hq, rfl⟩ := h3
          unfold acel at hu
          simp only at hu
          cases hT : anty S.2.1 n with
          | none => rw [hT] at hu; cases hu
          | some T =>
            rw [hT] at hu
            simp only at hu
            cases ht : atyp T with
            | none => rw [ht] at hu; cases hu
            | some tt =>
              rw [ht] at hu
              have hτ := anty_ok hM.2.1 hM.2.2.2.2.2.1 hT ht hq
              obtain ⟨-, c, hcc, hty⟩ := hM.2.2.2.2.2.1.2.2.2 q T hτ
              rcases tt with ⟨tg, L, rs⟩ | ⟨ci, ss⟩
              · cases hu
              · simp only at hu
                cases hb : Nat.beq ci r.2.2.1 with
                | false => rw [hb] at hu; cases hu
                | true =>
                  obtain ⟨fs, rfl, -⟩ := tyc_obj ht hty
                  have h5 : Nat.beq r.2.2.1 50 = false := by simpa using e.1
                  show (bif Nat.beq r.2.2.1 50 then _ else (match nth h q with
                    | some (.inr (c, _)) => Nat.beq c r.2.2.1
                    | _ => false)) = true
                  rw [h5]
                  simp only [cond_false, nth_eq, hcc]
                  exact hb
        · cases hu
      · cases hc
    · cases e
  | false =>
    rw [h1] at e
    simp only [cond_false] at e ⊢
    cases h2 : Nat.beq r.1 2 || Nat.beq r.1 4 with
    | false => rfl
    | true =>
      rw [h2] at e
      simp only [cond_true] at e ⊢
      split at e
      · rename_i n tl
        obtain ⟨v, vs', rfl, ⟨q, hq, rfl⟩, h4⟩ := asM_cons hs
        show Nat.blt q 1000000 = true
        exact bltT.mpr (anm_lt hM.2.1 hM.2.2.2.2.2.1 hq)
      · cases e
theorem aret_ok {sy : aI} {k : Nat} {a : av} {v : zv} (hs : asy ρ sy) (e : aret sy k a = true) (hv : avM ρ ν a v) : zret k v = true := by
  have two : ∀ (w : Nat × Int) (p b : Int × Int) (x : Int32) (r : Int), aiv sy w = some p → asub p b = true → ρ[w.1]? = some r → x.toInt = r + w.2 → b.1 ≤ x.toInt ∧ x.toInt ≤ b.2 := by
    intro w p b x r h1 h2 h3 h4
    have := aiv_ok (s := w.1) (c := w.2) hs h1 h3
    have := asub_ok h2
    omega
  unfold aret at e
  split at e
  · obtain ⟨x, r, rfl, -⟩ := hv
    rfl
  · rename_i w
    obtain ⟨x, r, rfl, hr, hx⟩ := hv
    split at e
    · rename_i p hp
      have hb := two w p (0, 1) x r hp e hr hx
      simp only at hb
      show (decide (x = 0) || decide (x = 1)) = true
      have h01 : x.toInt = 0 ∨ x.toInt = 1 := by omega
      rcases h01 with h9 | h9
      · rw [decide_eq_true (show x = 0 from Int32.toInt_inj.mp (by rw [h9]; rfl))]
        rfl
      · rw [decide_eq_true (show x = 1 from Int32.toInt_inj.mp (by rw [h9]; rfl)), Bool.or_true]
    · cases e
  · obtain ⟨o, rfl⟩ := aisA_ok e hv
    rfl
  · obtain ⟨-, w, rfl⟩ := aisL_ok e hv
    rfl
  · rename_i w
    obtain ⟨x, r, rfl, hr, hx⟩ := hv
    split at e
    · rename_i p hp
      have hb := two w p (0, 127) x r hp e hr hx
      simp only at hb
      show (decide (0 ≤ x) && decide (x ≤ 127)) = true
      rw [decide_eq_true (show (0 : Int32) ≤ x from Int32.le_iff_toInt_le.mpr hb.1), decide_eq_true (show x ≤ (127 : Int32) from Int32.le_iff_toInt_le.mpr hb.2)]
      rfl
    · cases e
  · rename_i w
    obtain ⟨x, r, rfl, hr, hx⟩ := hv
    split at e
    · rename_i p hp
      have hb := two w p (0, 127) x r hp e hr hx
      simp only at hb
      show (decide (0 ≤ x) && decide (x ≤ 127)) = true
      rw [decide_eq_true (show (0 : Int32) ≤ x from Int32.le_iff_toInt_le.mpr hb.1), decide_eq_true (show x ≤ (127 : Int32) from Int32.le_iff_toInt_le.mpr hb.2)]
      rfl
    · cases e
  · cases e
end SP
/-- what is said of going on -/
def aIH (J : zh → Prop) (τ0 : List Nat) (h0 : zh) (t0 : Nat) (ρt : List Int) (νt τt : List Nat) (d mi : Nat) (Out : zo × zh × Nat → Prop) (ih : aG) : Prop := ∀ (act : List aO) (pc : Nat) (ls : List (Option av)) (st : List av) (S : aS) (L : aL) (ρ : List Int) (ν τ : List Nat) (cs : List (Option zv)) (vs : List zv) (h : zh) (t : Nat), ih act pc ls st S = some L → aM J τ0 h0 t0 S ρ ν τ h t → alM ρ ν ls cs → asM ρ ν st vs → aouts J τ0 h0 t0 ρt νt τt d mi Out L → (∀ o ∈ act, arec J τ0 h0 t0 d mi Out o ρ ν τ) → aup ρt ρ → aup νt ν → aup τt τ → ∃ x, qF none d mi pc cs vs h t x ∧ Out x
def aCall (J : zh → Prop) (d : Nat) (call : aC) : Prop := ∀ (τ0 : List Nat) (h0 : zh) (t0 mj : Nat) (l0 : List (Option av)) (S : aS) (L : aL) (ρ : List Int) (ν τ : List Nat) (cs : List (Option zv)) (h : zh) (t : Nat), call mj l0 S = some L → (∀ x ∈ L, ∃ q, x.1 = .inl q) → aM J τ0 h0 t0 S ρ ν τ h t → alM ρ ν l0 cs → ∃ (q : Option av ⊕ Nat) (S' : aS) (x : zo) (ρ' : List Int) (ν' τ' : List Nat) (h' : zh) (t' : Nat), (.inl q, S') ∈ L ∧ qE d mj cs h t (x, h', t') ∧ aup ρ ρ' ∧ aup ν ν' ∧ aup τ τ' ∧ aM J τ0 h0 t0 S' ρ' ν' τ' h' t' ∧ aoM ρ' ν' q x
theorem aouts_sub {J : zh → Prop} {τ0 : List Nat} {h0 : zh} {t0 : Nat} {ρt : List Int} {νt τt : List Nat} {d mi : Nat} {Out : zo × zh × Nat → Prop} {L L' : aL} (h : aouts J τ0 h0 t0 ρt νt τt d mi Out L) (hs : ∀ x ∈ L', x ∈ L) : aouts J τ0 h0 t0 ρt νt τt d mi Out L' := fun o S' hm => h o S' (hs _ hm)
section SN
variable {J : zh → Prop} {τ0 : List Nat} {h0 : zh} {t0 : Nat} {ρ ρt : List Int} {ν τ νt τt : List Nat} {h : zh} {t d mi pc : Nat} {Out : zo × zh × Nat → Prop} {ih : aG} {act : List aO} {ls : List (Option av)} {st : List av} {S : aS} {L : aL} {cs : List (Option zv)} {vs : List zv}
theorem abck_ok {vt : Bool} {rest : List av} {vrest : List zv} {q : Option av ⊕ Nat} {o1 : zo} (hih : aIH J τ0 h0 t0 ρt νt τt d mi Out ih) (e : abck vt ih mi pc act ls rest q S = some L) (hM : aM J τ0 h0 t0 S ρ ν τ h t) (hl : alM ρ ν ls cs) (hr : asM ρ ν rest vrest) (ho : aoM ρ ν q o1) (hout : aouts J τ0 h0 t0 ρt νt τt d mi Out L) (hrec : ∀ o ∈ act, arec J τ0 h0 t0 d mi Out o ρ ν τ) (u1 : aup ρt ρ) (u2 : aup νt ν) (u3 : aup τt τ) : ∃ x, (∃ n0 : Nat, ∀ nn n : Nat, n0 ≤ nn → n0 ≤ n → zback vt (zloop none (zrun nn d) n) mi pc cs vrest (some (o1, h, t)) = some x) ∧ Out x := by
  rcases q with (_ | v) | ee
  · cases o1 with
    | inl z =>
      cases z with
      | none =>
        have e : frc (pc + 3) (fun pc' => tick (ih act pc' ls rest S)) = some L := e
        rw [frc_eq] at e
        obtain ⟨x, k1, k2⟩ := hih act (pc + 3) ls rest S L ρ ν τ cs vrest h t e hM hl hr hout hrec u1 u2 u3
        exact ⟨x, qB_void k1, k2⟩
      | some z => exact ho.elim
    | inr z => exact ho.elim
  · cases o1 with
    | inl z =>
      cases z with
      | none => exact ho.elim
      | some z =>
        have e : frc (pc + 3) (fun pc' => tick (ih act pc' ls (anrm S.1 v :: rest) S)) = some L := e
        rw [frc_eq] at e
        obtain ⟨x, k1, k2⟩ := hih act (pc + 3) ls _ S L ρ ν τ cs (z :: vrest) h t e hM hl (asM_mk (anrm_ok hM.1 ho) hr) hout hrec u1 u2 u3
        exact ⟨x, qB_val k1, k2⟩
    | inr z => exact ho.elim
  · cases o1 with
    | inl z => cases z <;> exact ho.elim
    | inr z =>
      have ho : ee = z := ho
      subst ho
      have e : (bif vt then (match zmeth mi with
        | some (_, _, _, hs) => match zhand hs pc ee with
          | some k => frc k (fun k => tick (ih act k ls [.inr (.inr 1)] S))
          | none => some [(.inl (.inr ee), S)]
        | none => none) else none) = some L := e
      cases vt with
      | false => cases e
      | true =>
        simp only [cond_true] at e
        cases hm : zmeth mi with
        | none => rw [hm] at e; cases e
        | some qq =>
          obtain ⟨a, b, c, hs⟩ := qq
          rw [hm] at e
          simp only at e
          cases hh : zhand hs pc ee with
          | none =>
            rw [hh] at e
            cases e
            exact ⟨_, qB_out hm hh, (hout _ _ List.mem_cons_self ρ ν τ h t u1 u2 u3 hM).1 _ rfl (.inr ee) rfl⟩
          | some kk =>
            rw [hh] at e
            simp only [frc_eq] at e
            obtain ⟨x, k1, k2⟩ := hih act kk ls _ S L ρ ν τ cs [.inl (some 1000001)] h t e hM hl (asM_mk (Or.inr (Or.inl ⟨rfl, rfl⟩)) trivial) hout hrec u1 u2 u3
            exact ⟨x, qB_catch hm hh k1, k2⟩
theorem abcks_mem {vt : Bool} {rest : List av} {q : Option av ⊕ Nat} {S' : aS} : ∀ {L1 L : aL}, abcks vt ih mi pc act ls rest L1 = some L → (.inl q, S') ∈ L1 → ∃ L' : aL, abck vt ih mi pc act ls rest q S' = some L' ∧ ∀ x ∈ L', x ∈ L
  | [], L, e, hm => by cases hm
  | x :: L1, L, e, hm => by
    have e : (match x.1 with
      | .inl o => acat (abck vt ih mi pc act ls rest o x.2) (abcks vt ih mi pc act ls rest L1)
      | .inr _ => none) = some L := e
    split at e
    · rename_i o ho
      obtain ⟨y1, y2, e1, e2, s1, s2⟩ := acat_ok e
      rcases List.mem_cons.mp hm with rfl | hm
      · cases ho
        exact ⟨y1, e1, s1⟩
      · obtain ⟨L', f1, f2⟩ := abcks_mem e2 hm
        exact ⟨L', f1, fun z hz => s2 z (f2 z hz)⟩
    · cases e
theorem abcks_inl {vt : Bool} {rest : List av} : ∀ {L1 L : aL}, abcks vt ih mi pc act ls rest L1 = some L → ∀ x ∈ L1, ∃ q, x.1 = .inl q
  | [], L, e, x, hx => by cases hx
  | z :: L1, L, e, x, hx => by
    have e : (match z.1 with
      | .inl o => acat (abck vt ih mi pc act ls rest o z.2) (abcks vt ih mi pc act ls rest L1)
      | .inr _ => none) = some L := e
    split at e
    · rename_i o ho
      obtain ⟨y1, y2, e1, e2, s1, s2⟩ := acat_ok e
      rcases List.mem_cons.mp hx with rfl | hx
      · exact ⟨o, ho⟩
      · exact abcks_inl e2 x hx
    · cases e
theorem apick_ok {S : aS} {args : List av} {c : aK} : ∀ {cks : List aK}, apick S d args cks = some c → c ∈ cks ∧ c.2.2.1 ≤ d ∧ aqok S c.1 args = true
  | [], e => by cases e
  | c9 :: cks, e => by
    have e : (bif Nat.ble c9.2.2.1 d && aqok S c9.1 args then some c9 else apick S d args cks) = some c := e
    cases hb : Nat.ble c9.2.2.1 d && aqok S c9.1 args with
    | true =>
      rw [hb] at e
      cases e
      simp only [Bool.and_eq_true] at hb
      exact ⟨List.mem_cons_self, Nat.le_of_ble_eq_true hb.1, hb.2⟩
    | false =>
      rw [hb] at e
      obtain ⟨f1, f2⟩ := apick_ok e
      exact ⟨List.mem_cons_of_mem _ f1, f2⟩
/-- a call -/
theorem acal_ok {ctb : Nat → List aK} {call : aC} {i : Instr} {len : Nat} {r : zr} (hC : ∀ (mj : Nat) (c : aK), c ∈ ctb mj → c.2.2.1 ≤ d → cOK J mj c) (hcall : aCall J d call) (hih : aIH J τ0 h0 t0 ρt νt τt d mi Out ih) (hf : zfetch mi pc = some (i, len, r)) (hi : (∃ k, i = .invokestatic k) ∨ (∃ k, i = .invokevirtual k) ∨ (∃ k, i = .invokespecial k)) (h5 : Nat.beq r.1 5 = false) (h7 : Nat.beq r.1 7 = false) (e : acal ctb d call ih mi pc act ls st S r = some L) (hM : aM J τ0 h0 t0 S ρ ν τ h t) (hl : alM ρ ν ls cs) (hs : asM ρ ν st vs) (hout : aouts J τ0 h0 t0 ρt νt τt d mi Out L) (hrec : ∀ o ∈ act, arec J τ0 h0 t0 d mi Out o ρ ν τ) (u1 : aup ρt ρ) (u2 : aup νt ν) (u3 : aup τt τ) : ∃ x, qF none d mi pc cs vs h t x ∧ Out x := by
  unfold acal at e
  cases hm : zmeth r.2.1 with
  | none => rw [hm] at e; cases e
  | some qq =>
    obtain ⟨nL, rk, n, hs9⟩ := qq
    rw [hm] at e
    simp only at e
    cases hp : apopn n [] st with
    | none => rw [hp] at e; cases e
    | some ar =>
      obtain ⟨args, rest⟩ := ar
      rw [hp] at e
      simp only at e
      obtain ⟨vargs, vrest, z1, z2, z3⟩ := apopn_ok hp (va := []) trivial hs
      cases hb : Nat.ble (acatn rest) 8 && aargs S r args with
      | false => rw [hb] at e; cases e
      | true =>
        rw [hb] at e
        simp only [cond_true] at e
        simp only [Bool.and_eq_true] at hb
        have q3 : zcat vrest ≤ 8 := Nat.le_trans (acatn_ok z3) (Nat.le_of_ble_eq_true hb.1)
        have q4 := aargs_ok hb.2 hM z2
        cases hE : aent args nL with
        | none => rw [hE] at e; cases e
        | some l0 =>
          rw [hE] at e
          simp only at e
          obtain ⟨c0, q5, hl0⟩ := aent_ok hE z2
          split at e
          · rename_i hno
            cases hca : call r.2.1 l0 S with
            | none => rw [hca] at e; cases e
            | some L1 =>
              rw [hca] at e
              simp only at e
              obtain ⟨q, S', x, ρ', ν', τ', h', t', g1, g2, g3, g4, g5, g6, g7⟩ := hcall τ0 h0 t0 r.2.1 l0 S L1 ρ ν τ c0 h t hca (abcks_inl e) hM hl0
              obtain ⟨L', f1, f2⟩ := abcks_mem e g1
              obtain ⟨xx, k1, k2⟩ := abck_ok (cs := cs) (vrest := vrest) hih f1 g6 (alM_up g3 g4 hl) (asM_up g3 g4 z3) g7 (aouts_sub hout f2) (fun o ho => arec_up (hrec o ho) g3 g4 g5) (aup_trans u1 g3) (aup_trans u2 g4) (aup_trans u3 g5)
              exact ⟨xx, qF_call hf hi h5 h7 hm z1 q3 q4 q5 g2 k1, k2⟩
          · rename_i cks hno
            cases hpk : apick S d args (ctb r.2.1) with
            | none => rw [hpk] at e; cases e
            | some c =>
              rw [hpk] at e
              simp only at e
              obtain ⟨p1, p2, p3⟩ := apick_ok hpk
              obtain ⟨ws, pv, S1, L1, ρ1, ν1, a1, a2, a3, a4, a5, a6, a7⟩ := apre_ok e hM z2
              have z2' := asM_up a3 a4 z2
              obtain ⟨o, h', t', τ', en, b1, b2, b3, b4, b5, b6, b7, b8⟩ := hC r.2.1 c p1 p2 τ h t nL rk n hs9 vargs c0 pv hm hM.2.2.2.2.2.1 hM.2.2.2.2.2.2.1 (aqok_ok hM p3 z2) a6 q5
              obtain ⟨L2, f1, f2⟩ := aends_mem a1 b1
              obtain ⟨q, S2, ρ2, ν2, g1, g2, g3, g4, g5⟩ := aend_ok f1 a5 z2' a7 (fun m h1 h2 => aqok_nm hM h2 p3 h1) b3 b4 b5 b6 b7 b8
              have w1 := aup_trans a3 g2
              have w2 := aup_trans a4 g3
              obtain ⟨xx, k1, k2⟩ := abck_ok (cs := cs) (vrest := vrest) hih g1 g4 (alM_up w1 w2 hl) (asM_up w1 w2 z3) g5 (aouts_sub hout (fun z hz => a2 z (f2 z hz))) (fun o ho => arec_up (hrec o ho) w1 w2 b3) (aup_trans u1 w1) (aup_trans u2 w2) (aup_trans u3 b3)
              exact ⟨xx, qF_call hf hi h5 h7 hm z1 q3 q4 q5 (qE_le p2 b2) k1, k2⟩
end SN
