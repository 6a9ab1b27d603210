/-! a frame, read for many states -/
theorem qF_copy {scr : Option (List zv)} {d mi pc : Nat} {ls : List (Option zv)} {st' : List zv} {h : zh} {t : Nat} {x : zo × zh × Nat} {i : Instr} {len : Nat} {r : zr} {n dp sp : zv} {b a : zv} {q0 q1 ii j k : Nat} {f0 f1 : List zv} (hf : zfetch mi pc = some (i, len, r)) (hi : (∃ k, i = .invokestatic k) ∨ (∃ k, i = .invokevirtual k) ∨ (∃ k, i = .invokespecial k)) (h5 : Nat.beq r.1 5 = false) (h7 : Nat.beq r.1 7 = true) (ha : zarr h a = some (q0, 0, f0)) (hb : zarr h b = some (q1, 0, f1)) (hc : zcat st' ≤ 8) (k1 : zix n (f0.length + 1) = some ii) (k2 : zix sp (f0.length + 1) = some j) (k3 : zix dp (f1.length + 1) = some k) (l1 : j + ii ≤ f0.length) (l2 : k + ii ≤ f1.length) (kk : qF scr d mi (pc + 3) ls st' (h.set q1 (.inl (0, zcpl f0 f1 j k ii))) t x) : qF scr d mi pc ls (n :: dp :: b :: sp :: a :: st') h t x := by
  obtain ⟨n0, e⟩ := kk
  refine qF_of (fun _ _ => ⟨n0, fun nn n9 g1 g2 => ?_⟩)
  rw [zgo_at hf]
  have key : zcall (zrun nn d) (zloop scr (zrun nn d) n9) mi pc ls (n :: dp :: b :: sp :: a :: st') h t r = some x := by
    unfold zcall
    rw [h5, h7]
    simp only [cond_true, cond_false]
    unfold zcallC
    simp only [ha, hb]
    rw [Nat.ble_eq_true_of_le hc]
    simp only [k1, k2, k3]
    rw [Nat.ble_eq_true_of_le l1, Nat.ble_eq_true_of_le l2]
    simp only [Nat.beq_refl, Bool.and_true, cond_true, frc_eq, tick]
    exact e nn n9 g1 g2
  rcases hi with ⟨k, rfl⟩ | ⟨k, rfl⟩ | ⟨k, rfl⟩ <;> exact key
section FR
variable {J : zh → Prop} {τ0 : List Nat} {h0 : zh} {t0 : Nat} {ρ ρt : List Int} {ν τ νt τt : List Nat} {h : zh} {t d mi pc : Nat} {Out : zo × zh × Nat → Prop} {ih : aG} {act : List aO} {ls : List (Option av)} {st : List av} {S : aS} {L : aL} {cs : List (Option zv)} {vs : List zv} {ctb : Nat → List aK} {call : aC} {ann : aA} {stops : List Nat}
theorem asub_in {sy : aI} {w : Nat × Int} {p b : Int × Int} {x : Int32} {r : Int} (hs : asy ρ sy) (h1 : aiv sy w = some p) (h2 : asub p b = true) (h3 : ρ[w.1]? = some r) (h4 : x.toInt = r + w.2) : b.1 ≤ x.toInt ∧ x.toInt ≤ b.2 := by
  have := aiv_ok (s := w.1) (c := w.2) hs h1 h3
  have := asub_ok h2
  omega
theorem acpy_ok {i : Instr} {len : Nat} {r : zr} (hJ : aJok J) (hih : aIH J τ0 h0 t0 ρt νt τt d mi Out ih) (hf : zfetch mi pc = some (i, len, r)) (hi : (∃ k, i = .invokestatic k) ∨ (∃ k, i = .invokevirtual k) ∨ (∃ k, i = .invokespecial k)) (h5 : Nat.beq r.1 5 = false) (h7 : Nat.beq r.1 7 = true) (e : acpy ih pc act ls st S = some L) (hM : aM J τ0 h0 t0 S ρ ν τ h t) (hl : alM ρ ν ls cs) (hs : asM ρ ν st vs) (hout : aouts J τ0 h0 t0 ρt νt τt d mi Out L) (hrec : ∀ o ∈ act, arec J τ0 h0 t0 d mi Out o ρ ν τ) (u1 : aup ρt ρ) (u2 : aup νt ν) (u3 : aup τt τ) : ∃ x, qF none d mi pc cs vs h t x ∧ Out x := by
  unfold acpy at e
  split at e
  · rename_i n dp b sp a st'
    obtain ⟨v1, vs1, rfl, g1, hs1⟩ := asM_cons hs
    obtain ⟨v2, vs2, rfl, g2, hs2⟩ := asM_cons hs1
    obtain ⟨v3, vs3, rfl, g3, hs3⟩ := asM_cons hs2
    obtain ⟨v4, vs4, rfl, g4, hs4⟩ := asM_cons hs3
    obtain ⟨v5, vs5, rfl, g5, hs5⟩ := asM_cons hs4
    obtain ⟨xn, rn, rfl, hn1, hn2⟩ := g1
    obtain ⟨xd, rd, rfl, hd1, hd2⟩ := g2
    obtain ⟨xs, rs9, rfl, hs1', hs2'⟩ := g4
    obtain ⟨na, Ta, qa, ta, ca, rfl, rfl, hqa, hTa, hta, e2, hca, htya, -⟩ := acel_ok e hM g5
    clear e
    obtain ⟨nb, Tb, qb, tb, cb, rfl, rfl, hqb, hTb, htb, e, hcb, htyb, -⟩ := acel_ok e2 hM g3
    clear e2
    split at e
    · rename_i La ua pa Lb ub pb
      obtain ⟨sy, nm, fa, rl, wr, tc⟩ := S
      split at e
      · rename_i pn pd ps sy9 nm9 fa9 rl9 wr9 tc9 ipn ipd ips he9
        cases he9
        cases hb : asub pa pb && (asub pn (0, Int.ofNat La) && (asub pn (0, Int.ofNat Lb) && (asub pd (0, 0) && (asub ps (0, 0) && (!aprot Tb && Nat.ble (acatn st') 8))))) with
        | false => rw [hb] at e; cases e
        | true =>
          rw [hb] at e
          simp only [cond_true, filK_eq, frc_eq] at e
          simp only [Bool.and_eq_true] at hb
          obtain ⟨b1, b2, b3, b4, b5, b6, b7⟩ := hb
          obtain ⟨fsa, rfl, hlena⟩ := tyc_arr hta htya
          obtain ⟨fsb, rfl, hlenb⟩ := tyc_arr htb htyb
          obtain ⟨m1, m2, m3, m4, ⟨m5, m6⟩, m7, m8, m9⟩ := hM
          have in1 := asub_in m1 ipn b2 hn1 hn2
          have in2 := asub_in m1 ipn b3 hn1 hn2
          have in3 := asub_in m1 ipd b4 hd1 hd2
          have in4 := asub_in m1 ips b5 hs1' hs2'
          simp only at in1 in2 in3 in4
          have z1 : Int.ofNat La = (La : Int) := rfl
          have z2 : Int.ofNat Lb = (Lb : Int) := rfl
          obtain ⟨ii, hii⟩ : ∃ ii : Nat, xn.toInt = (ii : Int) := ⟨xn.toInt.toNat, by omega⟩
          have lia : ii ≤ La := by omega
          have lib : ii ≤ Lb := by omega
          have hτ := anty_ok m2 m7 hTb htb hqb
          have hpr : aprot Tb = false := by simpa using b6
          have hlt : qb < h.length := (List.getElem?_eq_some_iff.mp hcb).1
          have hset : ∀ k' : Nat, k' ≠ qb → (h.set qb (.inl (0, zcpl fsa fsb 0 0 ii)))[k']? = h[k']? := fun k' hk => List.getElem?_set_ne (fun e9 => hk e9.symm)
          have hself : (h.set qb (.inl (0, zcpl fsa fsb 0 0 ii)))[qb]? = some (.inl (0, zcpl fsa fsb 0 0 ii)) := List.getElem?_set_self hlt
          have hsl9 : ∀ k' j' : Nat, k' ≠ qb → hsl (h.set qb (.inl (0, zcpl fsa fsb 0 0 ii))) k' j' = hsl h k' j' := fun k' j' hk => by
            unfold hsl
            rw [hset k' hk]
          have hcl : zcpl fsa fsb 0 0 ii = fsa.take ii ++ fsb.drop ii := by
            unfold zcpl
            simp
          have hty' : tyc τ Tb (.inl (0, zcpl fsa fsb 0 0 ii)) := by
            unfold tyc at htya htyb ⊢
            rw [hta] at htya
            rw [htb] at htyb ⊢
            obtain ⟨-, -, ea⟩ := htya
            obtain ⟨-, -, eb⟩ := htyb
            refine ⟨rfl, by rw [hcl, List.length_append, List.length_take, List.length_drop]; omega, fun j v hv => ?_⟩
            rw [hcl] at hv
            have hjl : j < Lb := by
              have := (List.getElem?_eq_some_iff.mp hv).1
              rw [List.length_append, List.length_take, List.length_drop] at this
              omega
            rcases Nat.lt_or_ge j ii with hj | hj
            · rw [List.getElem?_append_left (by rw [List.length_take]; omega), List.getElem?_take_of_lt hj] at hv
              obtain ⟨q, f1, f2⟩ := ea j v hv
              unfold srng at f1
              cases hu : Nat.blt j ua with
              | false => rw [hu] at f1; cases f1
              | true =>
                rw [hu] at f1
                cases f1
                obtain ⟨x, rfl, l1, l2⟩ := f2
                have := asub_ok b1
                obtain ⟨q', f3, f4⟩ := eb j _ (List.getElem?_eq_getElem (by omega))
                refine ⟨q', f3, ?_⟩
                unfold srng at f3
                cases hu2 : Nat.blt j ub with
                | false => rw [hu2] at f3; cases f3
                | true =>
                  rw [hu2] at f3
                  cases f3
                  exact ⟨x, rfl, by omega, by omega⟩
            · rw [List.getElem?_append_right (by rw [List.length_take]; omega), List.length_take, List.getElem?_drop] at hv
              rw [show ii + (j - min ii fsa.length) = j by omega] at hv
              exact eb j v hv
          have hM' : aM J τ0 h0 t0 (sy, nm, fa.filter (adrp nm [(Tb, 0, Lb)]), rl, awr wr (Tb, 0, Lb), tc) ρ ν τ (h.set qb (.inl (0, zcpl fsa fsb 0 0 ii))) t := by
            have hfr9 : aFr τ h [(Tb, 0, Lb)] (h.set qb (.inl (0, zcpl fsa fsb 0 0 ii))) := by
              intro k' T' i' hk hw
              by_cases hkq : k' = qb
              · subst hkq
                rw [hτ] at hk
                cases hk
                have hw : (Nat.beq Tb Tb && (Nat.ble 0 i' && Nat.ble i' Lb) || false) = false := hw
                rw [Nat.beq_refl, Bool.or_false, Nat.ble_eq_true_of_le (Nat.zero_le i')] at hw
                simp only [Bool.true_and] at hw
                have hgt : Lb < i' := by
                  rcases Nat.lt_or_ge Lb i' with q | q
                  · exact q
                  · rw [Nat.ble_eq_true_of_le q] at hw; cases hw
                have e1 : (zcpl fsa fsb 0 0 ii)[i']? = none := List.getElem?_eq_none (by
                  rw [hcl, List.length_append, List.length_take, List.length_drop]
                  omega)
                have e2 : fsb[i']? = none := List.getElem?_eq_none (by omega)
                rw [hsl_arr hself, hsl_arr hcb, e1, e2]
              · exact hsl9 k' i' hkq
            refine ⟨m1, m2, fun f hf9 => ?_, m4, ⟨m5, fun k' T' i' hk hw => ?_⟩, ⟨by rw [List.length_set]; exact m7.1, by rw [List.length_set]; exact m7.2.1, m7.2.2.1, fun k' T' hk => ⟨(m7.2.2.2 k' T' hk).1, ?_⟩⟩, hJ τ h _ m7 (List.length_set) (fun q' T' hq' hp' => hset q' (fun e9 => ?_)) m8, m9⟩
            · obtain ⟨x1, x2⟩ := List.mem_filter.mp hf9
              exact adrp_ok (wl9 := []) m2 m7 m1.1 (m3 f x1) x2 hfr9 (aup_refl _)
            · obtain ⟨w1, w2⟩ := awr_ok hw
              rw [hfr9 k' T' i' (m5 _ _ hk) ?_]
              · exact m6 k' T' i' hk w1
              · show (Nat.beq Tb T' && (Nat.ble 0 i' && Nat.ble i' Lb) || false) = false
                rw [Bool.or_false]
                cases hc : Nat.beq Tb T' && (Nat.ble 0 i' && Nat.ble i' Lb) with
                | false => rfl
                | true =>
                  simp only [Bool.and_eq_true] at hc
                  exact absurd ⟨(Nat.eq_of_beq_eq_true hc.1).symm, Nat.zero_le _, Nat.le_of_ble_eq_true hc.2.2⟩ w2
            · by_cases hkq : k' = qb
              · subst hkq
                rw [hτ] at hk
                cases hk
                exact ⟨_, hself, hty'⟩
              · obtain ⟨c', hc', hty9⟩ := (m7.2.2.2 k' T' hk).2
                exact ⟨c', by rw [hset k' hkq]; exact hc', hty9⟩
            · subst e9
              rw [hτ] at hq'
              cases hq'
              rw [hpr] at hp'
              cases hp'
          obtain ⟨x, k1, k2⟩ := hih act (pc + 3) ls st' _ L ρ ν τ cs vs5 _ t e hM' hl hs5 hout hrec u1 u2 u3
          exact ⟨x, qF_copy hf hi h5 h7 (zarr_at hca) (zarr_at hcb) (Nat.le_trans (acatn_ok hs5) (Nat.le_of_ble_eq_true b7)) (zix_ex hii (by omega)) (zix_ex (i := 0) (by omega) (by omega)) (zix_ex (i := 0) (by omega) (by omega)) (by omega) (by omega) k1, k2⟩
      · cases e
    · cases e
  · cases e
/-- an instruction -/
theorem ains_ok (hJ : aJok J) (hC : ∀ (mj : Nat) (c : aK), c ∈ ctb mj → c.2.2.1 ≤ d → cOK J mj c) (hcall : aCall J d call) (hih : aIH J τ0 h0 t0 ρt νt τt d mi Out ih) (e : ains ctb d call mi ih act pc ls st S = some L) (hM : aM J τ0 h0 t0 S ρ ν τ h t) (hl : alM ρ ν ls cs) (hs : asM ρ ν st vs) (hout : aouts J τ0 h0 t0 ρt νt τt d mi Out L) (hrec : ∀ o ∈ act, arec J τ0 h0 t0 d mi Out o ρ ν τ) (u1 : aup ρt ρ) (u2 : aup νt ν) (u3 : aup τt τ) : ∃ x, qF none d mi pc cs vs h t x ∧ Out x := by
  unfold ains at e
  cases hf : zfetch mi pc with
  | none => rw [hf] at e; cases e
  | some o =>
    obtain ⟨i, len, r⟩ := o
    rw [hf] at e
    simp only at e
    have key : (∀ k, i = .new k → Nat.beq r.1 99 = false) → atr i r pc ls st S (fun pc' ls' st' S' => frc pc' (fun pc'' => tick (ih act pc'' ls' st' S'))) = some L → ∃ x, qF none d mi pc cs vs h t x ∧ Out x := by
      intro h9 e9
      obtain ⟨pc', ls', st', S', y', cs', vs', z, ρ', ν', a1, a2, a3, a4, a5, a6, a7, a8⟩ := atr_ok hJ e9 hM hl hs
      simp only [frc_eq, tick] at a1
      obtain ⟨x, k1, k2⟩ := hih act pc' ls' st' S' y' ρ' ν' τ cs' vs' _ t a1 a6 a7 a8 (aouts_sub hout a2) (fun o ho => arec_up (hrec o ho) a4 a5 (aup_refl _)) (aup_trans u1 a4) (aup_trans u2 a5) u3
      exact ⟨x, qF_step hf h9 a3 k1, k2⟩
    have keyC : ((∃ k, i = .invokestatic k) ∨ (∃ k, i = .invokevirtual k) ∨ (∃ k, i = .invokespecial k)) → (bif Nat.beq r.1 5 then none else bif Nat.beq r.1 7 then acpy ih pc act ls st S else acal ctb d call ih mi pc act ls st S r) = some L → ∃ x, qF none d mi pc cs vs h t x ∧ Out x := by
      intro hi e9
      cases h5 : Nat.beq r.1 5 with
      | true => rw [h5] at e9; cases e9
      | false =>
        rw [h5] at e9
        simp only [cond_false] at e9
        cases h7 : Nat.beq r.1 7 with
        | true =>
          rw [h7] at e9
          exact acpy_ok hJ hih hf hi h5 h7 e9 hM hl hs hout hrec u1 u2 u3
        | false =>
          rw [h7] at e9
          exact acal_ok hC hcall hih hf hi h5 h7 e9 hM hl hs hout hrec u1 u2 u3
    have keyF : ∀ (f : av → Bool) (g : zv → Bool), ((i = .ireturn ∧ g = zisI) ∨ (i = .areturn ∧ g = zisA) ∨ (i = .lreturn ∧ g = zisL)) → (∀ (a : av) (v : zv), f a = true → avM ρ ν a v → g v = true) → afin mi st S f = some L → ∃ x, qF none d mi pc cs vs h t x ∧ Out x := by
      intro f g hi hg e9
      unfold afin at e9
      split at e9
      · rename_i a k b c v hm
        obtain ⟨v1, vs1, rfl, g1, g2⟩ := asM_cons hs
        have := asM_nil g2
        subst this
        cases hb : aret S.1 k v && f v with
        | false => rw [hb] at e9; cases e9
        | true =>
          rw [hb] at e9
          cases e9
          simp only [Bool.and_eq_true] at hb
          exact ⟨_, qF_fin hf hi hm (aret_ok hM.1 hb.1 g1) (hg v v1 hb.2 g1), (hout _ _ List.mem_cons_self ρ ν τ h t u1 u2 u3 hM).1 _ rfl (.inl (some v1)) g1⟩
      · cases e9
    cases i
    case return_ =>
      have e9 : avoi mi st S = some L := e
      unfold avoi at e9
      split at e9
      · rename_i a k b c hm
        have := asM_nil hs
        subst this
        cases hb : Nat.beq k 0 with
        | false => rw [hb] at e9; cases e9
        | true =>
          rw [hb] at e9
          cases e9
          have hk := Nat.eq_of_beq_eq_true hb
          subst hk
          exact ⟨_, qF_void hf hm, (hout _ _ List.mem_cons_self ρ ν τ h t u1 u2 u3 hM).1 _ rfl (.inl none) trivial⟩
      · cases e9
    case ireturn => exact keyF aisI zisI (Or.inl ⟨rfl, rfl⟩) gI e
    case areturn => exact keyF aisA zisA (Or.inr (Or.inl ⟨rfl, rfl⟩)) gA e
    case lreturn => exact keyF aisL zisL (Or.inr (Or.inr ⟨rfl, rfl⟩)) gL e
    case invokestatic k => exact keyC (Or.inl ⟨k, rfl⟩) e
    case invokevirtual k => exact keyC (Or.inr (Or.inl ⟨k, rfl⟩)) e
    case invokespecial k => exact keyC (Or.inr (Or.inr ⟨k, rfl⟩)) e
    case new k =>
      have e9 : (bif Nat.beq r.1 99 then athr st r S else none) = some L := e
      cases hb : Nat.beq r.1 99 with
      | false => rw [hb] at e9; cases e9
      | true =>
        rw [hb] at e9
        simp only [cond_true] at e9
        unfold athr at e9
        split at e9
        · rename_i sy nm fa rl wr tc
          simp only [frc_eq] at e9
          cases e9
          have := asM_nil hs
          subst this
          have hM' : aM J τ0 h0 t0 (sy, nm, fa, rl, wr, tc + 1) ρ ν τ h (t + 1) := by
            obtain ⟨m1, m2, m3, m4, m5, m7, m8, m9⟩ := hM
            exact ⟨m1, m2, m3, m4, m5, m7, m8, by simp only at m9 ⊢; omega⟩
          exact ⟨_, qF_thr hf hb, (hout _ _ List.mem_cons_self ρ ν τ h (t + 1) u1 u2 u3 hM').1 _ rfl (.inr r.2.1) rfl⟩
        · cases e9
    all_goals exact key (fun k q => by cases q) e
/-- a place -/
theorem ago_ok (hJ : aJok J) (hC : ∀ (mj : Nat) (c : aK), c ∈ ctb mj → c.2.2.1 ≤ d → cOK J mj c) (hcall : aCall J d call) (hih : aIH J τ0 h0 t0 ρt νt τt d mi Out ih) : aIH J τ0 h0 t0 ρt νt τt d mi Out (ago ctb ann stops d call mi ih) := by
  intro act pc ls st S L ρ ν τ cs vs h t e hM hl hs hout hrec u1 u2 u3
  unfold ago at e
  cases hst : stops.any (fun q => Nat.beq q pc) with
  | true =>
    rw [hst] at e
    cases e
    exact (hout _ _ List.mem_cons_self ρ ν τ h t u1 u2 u3 hM).2 pc ls st rfl cs vs hl hs
  | false =>
    rw [hst] at e
    simp only [cond_false] at e
    cases ha : alk act pc with
    | some o =>
      rw [ha] at e
      simp only at e
      cases hb : aarr o ls st S with
      | false => rw [hb] at e; cases e
      | true => exact aarr_ok (o := (pc, o)) (hrec _ (alk_mem ha)) hb hM hl hs
    | none =>
      rw [ha] at e
      simp only at e
      cases hn : alk ann pc with
      | none =>
        rw [hn] at e
        exact ains_ok hJ hC hcall hih e hM hl hs hout hrec u1 u2 u3
      | some an =>
        rw [hn] at e
        rcases an with an | sp
        · simp only at e
          cases st with
          | cons a st' => cases e
          | nil =>
            have := asM_nil hs
            subst this
            refine ahead_ok e hM hl (fun o lsH SH L' ρ1 ν1 τ1 cs1 h1 t1 a1 a2 a3 a4 a5 a6 a7 a8 a9 => ?_)
            refine ains_ok hJ hC hcall hih a1 a7 a8 trivial (aouts_sub hout a2) (fun o9 ho9 => ?_) (aup_trans u1 a4) (aup_trans u2 a5) (aup_trans u3 a6)
            rcases List.mem_cons.mp ho9 with rfl | ho9
            · exact a9
            · exact arec_up (hrec o9 ho9) a4 a5 a6
        · simp only at e
          obtain ⟨S', y', e1, e2, e3⟩ := aspl_ok hl e hM
          exact ains_ok hJ hC hcall hih e1 e3 hl hs (aouts_sub hout e2) hrec u1 u2 u3
theorem alp_ok (hJ : aJok J) (hC : ∀ (mj : Nat) (c : aK), c ∈ ctb mj → c.2.2.1 ≤ d → cOK J mj c) (hcall : aCall J d call) : ∀ n : Nat, aIH J τ0 h0 t0 ρt νt τt d mi Out (alp ctb ann stops d call mi n)
  | 0 => fun _ _ _ _ _ _ _ _ _ _ _ _ _ e => (by cases e)
  | n + 1 => ago_ok hJ hC hcall (alp_ok hJ hC hcall n)
end FR
/-- callees that are read on the spot -/
theorem arn_ok {J : zh → Prop} {ctb : Nat → List aK} {nn : Nat} (hJ : aJok J) : ∀ d : Nat, (∀ (mj : Nat) (c : aK), c ∈ ctb mj → c.2.2.1 ≤ d → cOK J mj c) → aCall J d (arn ctb nn d)
  | 0, _ => fun _ _ _ _ _ _ _ _ _ _ _ _ _ e => (by cases e)
  | d + 1, hC => by
    have hC' : ∀ (mj : Nat) (c : aK), c ∈ ctb mj → c.2.2.1 ≤ d → cOK J mj c := fun mj c h1 h2 => hC mj c h1 (Nat.le_succ_of_le h2)
    have IH := arn_ok (nn := nn) hJ d hC'
    intro τ0 h0 t0 mj l0 S L ρ ν τ cs h t e hin hM hl
    have e : alp ctb [] [] d (arn ctb nn d) mj nn [] 0 l0 [] S = some L := e
    obtain ⟨x, k1, q, S', xo, ρ', ν', τ', h', t', g1, g2, g3, g4, g5, g6, g7⟩ := alp_ok (ann := []) (stops := []) (τ0 := τ0) (h0 := h0) (t0 := t0) (ρt := ρ) (νt := ν) (τt := τ) (d := d) (mi := mj) (Out := fun x => ∃ (q : Option av ⊕ Nat) (S' : aS) (xo : zo) (ρ' : List Int) (ν' τ' : List Nat) (h' : zh) (t' : Nat), (.inl q, S') ∈ L ∧ x = (xo, h', t') ∧ aup ρ ρ' ∧ aup ν ν' ∧ aup τ τ' ∧ aM J τ0 h0 t0 S' ρ' ν' τ' h' t' ∧ aoM ρ' ν' q xo) hJ hC' IH nn [] 0 l0 [] S L ρ ν τ cs [] h t e hM hl trivial (fun o S' hm ρ' ν' τ' h' t' u1 u2 u3 hM' => ⟨fun q hq xo hx => ⟨q, S', xo, ρ', ν', τ', h', t', by rw [← hq]; exact hm, rfl, u1, u2, u3, hM', hx⟩, fun pc9 ls9 st9 ho => by
      obtain ⟨q, hq⟩ := hin _ hm
      rw [ho] at hq
      cases hq⟩) (fun o ho => (by cases ho)) (aup_refl _) (aup_refl _) (aup_refl _)
    subst g2
    exact ⟨q, S', xo, ρ', ν', τ', h', t', g1, qE_of k1, g3, g4, g5, g6, g7⟩
