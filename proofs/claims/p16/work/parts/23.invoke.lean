theorem zini_none : lw_tbl.all (fun w => match w with
  | .code y _ _ ret => !decide (y.name = "<init>") || ret.isNone
  | _ => true) = true := by decide +kernel
theorem zat_eq {p : Nat} {w1 w2 : Cond} (h1 : zat p w1 = true) (h2 : zat p w2 = true) : w1 = w2 := by
  unfold zat at h1 h2
  simp only [Bool.and_eq_true, decide_eq_true_eq] at h1 h2
  exact Option.some.inj (h1.1.symm.trans h2.1)
theorem zwsM_nil {M : zmrow} (h : M.2.2.2.2.1 = []) : zwsM M = .code M.1 M.2.1 M.2.2.1 M.2.2.2.1 := by
  unfold zwsM
  rw [h]
  rfl
theorem zwsM_cons {M : zmrow} (h : M.2.2.2.2.1 ≠ []) : zwsM M = .codeWith M.1 M.2.1 M.2.2.1 M.2.2.2.1 M.2.2.2.2.1 := by
  unfold zwsM
  cases hh : M.2.2.2.2.1 with
  | nil => exact absurd hh h
  | cons a r => rfl
theorem zback_mono {vt : Bool} {ih : zF} (hi : zFm ih) {mi pc : Nat} {ls : List (Option zv)} {rest : List zv} {o1 : zo} {h1 : zh} {t1 : Nat} {o : zo} {h' : zh} {t' : Nat} (e : zback vt ih mi pc ls rest (some (o1, h1, t1)) = some (o, h', t')) : zMo h1 t1 h' t' := by
  obtain ⟨o9, h9, t9, e9, hx⟩ := zback_inv e
  cases e9
  rcases hx with ⟨-, e⟩ | ⟨v, -, e⟩ | ⟨ee, nL, k, n, hs, -, -, -, ⟨kk, -, e⟩ | ⟨-, hx⟩⟩
  · exact hi _ _ _ _ _ _ _ _ _ e
  · exact hi _ _ _ _ _ _ _ _ _ e
  · exact hi _ _ _ _ _ _ _ _ _ e
  · cases hx
    exact ⟨Nat.le_refl _, Nat.le_refl _⟩
theorem zback_ret {ih : zF} {mi pc : Nat} {ls : List (Option zv)} {rest : List zv} {o1 : zo} {h1 : zh} {t1 : Nat} {x : zo × zh × Nat} (e : zback false ih mi pc ls rest (some (o1, h1, t1)) = some x) : ∃ v, o1 = .inl v := by
  obtain ⟨o9, h9, t9, e9, hx⟩ := zback_inv e
  cases e9
  rcases hx with ⟨rfl, -⟩ | ⟨v, rfl, -⟩ | ⟨ee, nL, k, n, hs, -, hf, -⟩
  · exact ⟨_, rfl⟩
  · exact ⟨_, rfl⟩
  · cases hf
theorem zrm_aux {x d n : Nat} (h : 64 * (d + 5) ≤ n) (hx : x ≤ 40) : 8 + (x + 11) + 64 * (d + 4) ≤ n := by
  have h1 : 64 * (d + 4) + 64 ≤ n := h
  generalize 64 * (d + 4) = y at h1 ⊢
  clear h
  omega
theorem zrm_lo {x d mc ms n : Nat} (h : 64 * (d + 5) ≤ n) (hx : x ≤ 40) : 8 + (x + 11) + (zrm d mc ms).locals ≤ n := zrm_aux h hx
theorem zrm_fr {d mc ms n : Nat} (h : d + 8 ≤ n) : (zrm d mc ms).frames + 1 ≤ n := h
section ZCB
variable {R : Room} {s : State} {args : Array Value} {own : String} {idx d mc ms n' : Nat} {M : zmrow}
theorem zCB (hts : ∀ w ∈ zGd, w.before args s = true) (hfr : d + 8 ≤ R.frames) (hlo : 64 * (d + 5) ≤ R.locals) (hML : M.2.2.1 ≤ 40) (hwM : zwsM M ∈ zGd) (hn : M.2.2.2.2.1 = []) (hini : Cond.initialized M.1.cls ∈ zGd) (hy : M.1.cls ≠ "java/lang/invoke/MethodHandle" ∧ M.1.cls ≠ "java/lang/invoke/VarHandle") (hsig : (parseMethodDescriptor M.1.desc).map (fun d => d.parameters.length) = some n') (hl : (Cond.methodLink own idx M.1).before args s = true) : CallB R s args own idx M.1 M.2.1 M.2.2.1 M.2.2.2.1 (zws M) (zrm d mc ms) mc ms n' :=
  callB_of (Ts := zGd) (ws' := zGd) n' hts (zGood M hwM) (by show zwsM M :: zGd = _; rw [zwsM_nil hn]) rfl rfl (hts _ hini) hl ⟨hy.1, hy.2, hsig⟩ ⟨zrm_fr hfr, zrm_lo hlo hML⟩
theorem zCBN (hts : ∀ w ∈ zGd, w.before args s = true) (hfr : d + 8 ≤ R.frames) (hlo : 64 * (d + 5) ≤ R.locals) (hML : M.2.2.1 ≤ 40) (hwM : zwsM M ∈ zGd) (hn : M.2.2.2.2.1 = []) (hini : Cond.initialized M.1.cls ∈ zGd) (hy : M.1.cls ≠ "java/lang/invoke/MethodHandle" ∧ M.1.cls ≠ "java/lang/invoke/VarHandle") (hsig : (parseMethodDescriptor M.1.desc).map (fun d => d.parameters.length) = some n') {host : String} (hl : va_Nw (.methodLinkNest own idx M.1 host) s) : va_CN R s args own idx M.1 host M.2.1 M.2.2.1 M.2.2.2.1 (zws M) (zrm d mc ms) mc ms n' :=
  va_cnB (Ts := zGd) (ws' := zGd) n' hts (zGood M hwM) (by show zwsM M :: zGd = _; rw [zwsM_nil hn]) rfl rfl hl (hts _ hini) ⟨hy.1, hy.2, hsig⟩ ⟨zrm_fr hfr, zrm_lo hlo hML⟩
theorem zCSW (hts : ∀ w ∈ zGd, w.before args s = true) (hfr : d + 8 ≤ R.frames) (hlo : 64 * (d + 5) ≤ R.locals) (hML : M.2.2.1 ≤ 40) (hwM : zwsM M ∈ zGd) (hn : M.2.2.2.2.1 ≠ []) (hini : Cond.initialized M.1.cls ∈ zGd) (hy : M.1.cls ≠ "java/lang/invoke/MethodHandle" ∧ M.1.cls ≠ "java/lang/invoke/VarHandle") (hsig : (parseMethodDescriptor M.1.desc).map (fun d => d.parameters.length) = some n') (hl : (Cond.methodLink own idx M.1).before args s = true) (hst : (Cond.static M.1).before args s = true) : vx_CSW R s args own idx M.1 M.2.1 M.2.2.1 M.2.2.2.1 M.2.2.2.2.1 (zws M) (zrm d mc ms) mc ms n' := by
  have hc : Cond.codeWith M.1 M.2.1 M.2.2.1 M.2.2.2.1 M.2.2.2.2.1 ∈ zws M := by
    rw [← zwsM_cons hn]
    exact List.mem_cons_self
  refine ⟨⟨rfl, rfl, zrm_fr hfr, zrm_lo hlo hML, pay_in hts (zGood M hwM), hc⟩, hts _ (zGood M hwM _ hc).1, hts _ hini, hy, fun sig h => ?_, hl, hst⟩
  rw [h] at hsig
  exact (Option.some.inj hsig).symm
end ZCB
section ZCall3
variable {p : Program} {l : Launch} {e : Env} {R : Room} {s : State} {m : MethodId} {args : Array Value} {below : List Frame} {meth : Method} {c : Code} {Q : State → Prop} {g : zg} {D : va_G} {A : Nat → Prop} {scr : Option (List zv)}
/-- whom a virtual call is sent to -/
theorem zrcv_ok {H : Heap} {locs : List Loc} {ws : va_W} {h : zh} {ci : Nat} {C : String} {a : zv} {v : Value} (hE : zE g scr D A s) (hW : zW (zX g) D A s H ws h) (hS0 : va_S A s.heap H locs) (hr : zrcv ci a h = true) (hc : zrc ci C = true) (hv : zval (zX g) ws a v) : ∃ b, v = .ref b ∧ ∃ cell : Cell, H[b]? = some cell ∧ cell.vm.isStatics = false ∧ s.vm.findClass C = some cell.cls := by
  rcases a with (_ | q) | _
  · cases hr
  · have hr : (bif Nat.beq ci 50 then Nat.ble 2000000 q && Nat.blt q 3000000 else (match nth h q with
      | some (.inr (c, _)) => Nat.beq c ci
      | _ => false)) = true := hr
    unfold zrc at hc
    cases h5 : Nat.beq ci 50 with
    | true =>
      rw [h5] at hr hc
      simp only [cond_true, Bool.and_eq_true, decide_eq_true_eq] at hr hc
      have h1 := Nat.le_of_ble_eq_true hr.1
      have h2 : q < 3000000 := by simpa [Nat.blt_eq] using hr.2
      subst hc
      rcases hv with ⟨h3, -⟩ | ⟨-, h3⟩
      · omega
      · rcases h3 with ⟨h3, -⟩ | ⟨h3, -⟩ | ⟨i, hi, h3, h4⟩ | ⟨i, hi, h3, h4⟩
        · omega
        · omega
        · exact ⟨_, h4, vk_recv (i := 0) (hE.2.2.2.2.1.1 i hi) Nat.zero_lt_one hS0⟩
        · omega
    | false =>
      rw [h5] at hr hc
      simp only [cond_false, nth_eq] at hr hc
      cases hq : h[q]? with
      | none => rw [hq] at hr; cases hr
      | some cc =>
        rw [hq] at hr
        rcases cc with ⟨t0, f0⟩ | ⟨c0, f0⟩
        · cases hr
        · have hr := Nat.eq_of_beq_eq_true hr
          subst hr
          obtain ⟨b, el, rfl, hb, vs, rfl, -⟩ := zat_cell hW hv hq
          cases hcl : vwCl[c0]? with
          | none => rw [hcl] at hc; cases hc
          | some w =>
            obtain ⟨C9, T9, N9⟩ := w
            rw [hcl] at hc
            have hc := of_decide_eq_true hc
            subst hc
            exact ⟨b, rfl, va_recv hE.1 hW.1 hcl hb⟩
  · cases hr
theorem zfree {H : Heap} {locs : List Loc} {ws : va_W} {h : zh} (hW : zW (zX g) D A s H ws h) (hS0 : va_S A s.heap H locs) (hA : ∀ q, s.heap.size ≤ q → A q) : ∀ q, va_A ws H.size q → A q := by
  intro q hq
  rcases hq with ⟨k, e9, hk⟩ | hq
  · exact hW.2.1.2 k (q, e9) hk
  · exact hA q (Nat.le_trans hS0.1 hq)
theorem zpre {H : Heap} {locs : List Loc} {ws : va_W} {h : zh} {As : List Value} (hE : zE g scr D A s) (hB : zB s) (hW : zW (zX g) D A s H ws h) (hS0 : va_S A s.heap H locs) (hf : ∀ q, va_A ws H.size q → A q) : ∀ U : State, U.heap = H → s.WarmedH U.vm → zPc g D ws h As H.size As.toArray U := fun U hU hWm => ⟨rfl, by rw [hU], by rw [hU]; exact zW_enter hW hWm.alike, zE_step hE hS0 hf hU hWm, zB_warm hWm hB⟩
theorem zcallM_ok {M : zmrow} {mi pc d : Nat} {i : Instr} {r : zr} {call : zC} {ih : zF} {ls : List (Option zv)} {st : List zv} {h : zh} {t : Nat} {o : zo} {h' : zh} {t' : Nat} {H : Heap} {locs : List Loc} {cells slots : Nat} {ws : va_W} {la : Array Slot} {vs : List Value} (IH : zIH p l e R s m args below meth c Q g D A M.2.1 mi M.2.2.1 ih) (hFm : zFm ih) (hF : zFr p s m args meth c M.2.1 M.1.cls M.1.name g scr D A) (hB : zB s) (hml : c.maxLocals = M.2.2.1) (htab : c.exceptionTable.toList = tableOf M.2.2.2.2.1) (hhk : ∀ (n1 n2 n3 : Nat) (hs : List (Nat × Nat × Nat × Nat)), zmeth mi = some (n1, n2, n3, hs) → zhok M.1.cls M.2.2.2.2.1 hs = true) (hcon : zCon l d call) (hcm : zCm call) (hfr : d + 8 ≤ R.frames) (hlo : 64 * (d + 5) ≤ R.locals)
    (hi : (∃ k, i = .invokestatic k) ∨ (∃ k, i = .invokevirtual k) ∨ (∃ k, i = .invokespecial k)) (hd : decode M.2.1 pc = .ok (i, 3)) (hw : zcw M.1.cls i r = true) (h5 : Nat.beq r.1 5 = false) (h7 : Nat.beq r.1 7 = false) (e1 : zcallM call ih mi pc ls st h t r = some (o, h', t')) (hW : zW (zX g) D A s H ws h) (hS0 : va_S A s.heap H locs) (hL : zL (zX g) ws M.2.2.1 ls la) (hS : zS (zX g) ws st vs) (hrc : cells + (h'.length + t') ≤ R.cells + (h.length + t)) (hrs : slots + (zsl h' + 6 * t') ≤ R.slots + (zsl h + 6 * t)) (k : zEnd p l e R s m args below meth c Q g D A M.2.1 mi M.2.2.1 o h' t' cells slots ws h t) : W p l e R s m args below meth c H locs cells slots Q (F0 m pc la vs) := by
  have hF9 := hF
  obtain ⟨hx, hb, hown, hts, hnm, hE, hA⟩ := hF
  obtain ⟨nL, rk, n, hs, args', rest, l0, hmt, hpop, hcat, harg, hent, hbk⟩ := zcallM_inv e1
  obtain ⟨o1, h1, t1, hcall, -⟩ := zback_inv hbk
  rw [hcall] at hbk
  have hmo := hcm _ _ _ _ _ _ _ hcall
  have hmo2 := zback_mono hFm hbk
  obtain ⟨p0, rfl, hpl, hargs⟩ := zpop_ok n hpop
  rw [List.append_nil] at hargs
  obtain ⟨v1, v2, rfl, hS1, hS2⟩ := zS_split hS
  have hSa : zS (zX g) ws args' v1.reverse := by rw [hargs]; exact zS_rev hS1
  have hvl : v1.length = n := (zS_len hS1).trans hpl
  have hf := zfree hW hS0 hA
  have hcs : 2 * 0 + (v2.map fun v => v.category).sum ≤ 8 := by
    have := zcat_ok zX_ref hS2
    omega
  have hroom : cells + ((h1.length + t1) - (h.length + t)) ≤ R.cells ∧ slots + ((zsl h1 + 6 * t1) - (zsl h + 6 * t)) ≤ R.slots := by
    obtain ⟨m1, m2⟩ := hmo
    obtain ⟨m3, m4⟩ := hmo2
    constructor <;> omega
  have key : ∀ Mj : zmrow, zmd r.2.1 = some Mj → r.2.1 < 289 → ∃ (hlt : r.2.1 < 289), Mj.2.2.1 ≤ 40 ∧ (Mj.1.cls ≠ "java/lang/invoke/MethodHandle" ∧ Mj.1.cls ≠ "java/lang/invoke/VarHandle") ∧ Cond.initialized Mj.1.cls ∈ zGd ∧ zwsM Mj ∈ zGd ∧ ((zat Mj.2.2.2.2.2.2.1 (.static Mj.1) = true ∧ (parseMethodDescriptor Mj.1.desc).map (fun d => d.parameters.length) = some n) ∨ (zat Mj.2.2.2.2.2.2.1 (.static Mj.1) = false ∧ 1 ≤ n ∧ (parseMethodDescriptor Mj.1.desc).map (fun d => d.parameters.length) = some (n - 1))) ∧ zent args' Mj.2.2.1 = some l0 := by
    intro Mj hMj hlt
    obtain ⟨q1, q2, q3, q4, q5, q6, q7, q8, q9⟩ := zmok_inv hlt hMj hmt
    subst q1
    exact ⟨hlt, q2, q5, q7, zmd_word hMj (by omega), q9, hent⟩
  have S9 : CallFix p m c M.2.1 M.2.2.1 s args zGd M.1.cls := ⟨hx, hb, hml, hown, hts⟩
  have hlt9 : ∀ Mj : zmrow, zmd r.2.1 = some Mj → (zat Mj.2.2.2.2.2.2.1 (.static Mj.1) = true ∨ zat Mj.2.2.2.2.2.2.1 (.instanceMethod Mj.1) = true) → r.2.1 < 289 := by
    intro Mj hMj hz
    have h1 := zmd_lt hMj
    rcases Nat.lt_or_ge r.2.1 289 with q | q
    · exact q
    · have h2 : r.2.1 = 289 := by omega
      rw [h2, zmd_law] at hMj
      cases hMj
      rcases hz with hz | hz
      · exact absurd (zno1.symm.trans hz) (by decide)
      · exact absurd (zno2.symm.trans hz) (by decide)
  rcases hi with ⟨idx, rfl⟩ | ⟨idx, rfl⟩ | ⟨idx, rfl⟩
  · have hw : (bif Nat.beq r.1 7 then zat r.2.2.2 (.methodLink M.1.cls idx arraycopyName) else !Nat.beq r.1 5 && (match zmd r.2.1 with
      | some M9 => zcwS M.1.cls idx r M9
      | none => false)) = true := hw
    rw [h7, h5] at hw
    simp only [cond_false, Bool.not_false, Bool.true_and] at hw
    cases hMj : zmd r.2.1 with
    | none => rw [hMj] at hw; cases hw
    | some Mj =>
      rw [hMj] at hw
      have hw : zcwS M.1.cls idx r Mj = true := hw
      unfold zcwS at hw
      simp only [Bool.and_eq_true] at hw
      obtain ⟨w1, w2⟩ := hw
      obtain ⟨hlt, k1, k2, k3, k4, k5, k6⟩ := key Mj hMj (hlt9 Mj hMj (Or.inl w1))
      have hsig : (parseMethodDescriptor Mj.1.desc).map (fun d => d.parameters.length) = some n := by
        rcases k5 with ⟨-, k5⟩ | ⟨k5, -⟩
        · exact k5
        · rw [w1] at k5; cases k5
      obtain ⟨c1, c2, c3⟩ := hcon _ _ _ _ _ _ _ hcall hlt Mj hMj args' k6 g D ws v1.reverse H.size hSa
      have hpS : PreS s H (zPc g D ws h v1.reverse H.size) v1.reverse := ⟨zPc_blind, zpre hE hB hW hS0 hf⟩
      have hst9 : (F0 m pc la (v1 ++ v2)).stack = v1.reverse.reverse ++ v2 := by rw [List.reverse_reverse]
      cases hr1 : Nat.beq r.1 1 with
      | true =>
        rw [hr1] at w2
        simp only [cond_true] at w2
        have hr0 : Nat.beq r.1 0 = false := by
          have := Nat.eq_of_beq_eq_true hr1
          rw [this]
          rfl
        rw [hr0] at hbk
        obtain ⟨v9, ho⟩ := zback_ret hbk
        by_cases hh : Mj.2.2.2.2.1 = []
        · exact zcallR (va_runS S9 (c1 v9 ho hh) ⟨zCB hts hfr hlo k1 k4 hh k3 k2 hsig (hts _ (zat_ok w2)), hts _ (zat_ok w1)⟩ hpS rfl (by rw [List.length_reverse]; exact hvl) hL.2.1 hst9 hcs hd hroom) hS0 hf (zafter IH hbk hmo hL hS2 hrc hrs k)
        · exact zcallX (vx_runSX S9 (c3 hh) (zCSW hts hfr hlo k1 k4 hh k3 k2 hsig (hts _ (zat_ok w2)) (hts _ (zat_ok w1))) hpS rfl (by rw [List.length_reverse]; exact hvl) hL.2.1 hst9 hcs hd hroom) hS0 hf (fun ee H1 locs1 ws' q ce h9 => by rw [ho] at h9; cases h9) (zafter IH hbk hmo hL hS2 hrc hrs k)
      | false =>
        rw [hr1] at w2
        simp only [cond_false, Bool.and_eq_true] at w2
        obtain ⟨w2, w3, w4⟩ := w2
        have hr0 : Nat.beq r.1 0 = false := by
          have := Nat.eq_of_beq_eq_true w2
          rw [this]
          rfl
        rw [hr0] at hbk
        obtain ⟨v9, ho⟩ := zback_ret hbk
        have hh : Mj.2.2.2.2.1 = [] := List.isEmpty_iff.mp w4
        exact zcallR (va_runSN S9 (c1 v9 ho hh) ⟨zCBN hts hfr hlo k1 k4 hh k3 k2 hsig (hE.2.1 _ (zatN_ok w3) rfl), hts _ (zat_ok w1), trivial⟩ hpS rfl (by rw [List.length_reverse]; exact hvl) hL.2.1 hst9 hcs hd hroom) hS0 hf (zafter IH hbk hmo hL hS2 hrc hrs k)
  · have hw : (Nat.beq r.1 0 && (match zmd r.2.1 with
      | some M9 => zcwV M.1.cls idx r M9
      | none => false)) = true := hw
    simp only [Bool.and_eq_true] at hw
    obtain ⟨hr0, hw⟩ := hw
    cases hMj : zmd r.2.1 with
    | none => rw [hMj] at hw; cases hw
    | some Mj =>
      rw [hMj] at hw
      have hw : zcwV M.1.cls idx r Mj = true := hw
      unfold zcwV at hw
      simp only [Bool.and_eq_true] at hw
      obtain ⟨w1, w2, w3, w4, w5, w6⟩ := hw
      obtain ⟨hlt, k1, k2, k3, k4, k5, k6⟩ := key Mj hMj (hlt9 Mj hMj (Or.inr w2))
      have hsig : (parseMethodDescriptor Mj.1.desc).map (fun d => d.parameters.length) = some (n - 1) := by
        rcases k5 with ⟨k5, -⟩ | ⟨-, -, k5⟩
        · have := zat_eq k5 w2; cases this
        · exact k5
      have hh : Mj.2.2.2.2.1 = [] := List.isEmpty_iff.mp w5
      obtain ⟨c1, c2, c3⟩ := hcon _ _ _ _ _ _ _ hcall hlt Mj hMj args' k6 g D ws v1.reverse H.size hSa
      unfold zargs at harg
      rw [hr0] at harg
      simp only [cond_true] at harg
      rcases args' with _ | ⟨a0, as⟩
      · cases harg
      · obtain ⟨x0, xs, hxs, hx0, hSx⟩ := zS_cons hSa
        obtain ⟨b, rfl, hcell⟩ := zrcv_ok hE hW hS0 harg w4 hx0
        rw [hxs] at c2
        have hv1 : v1 = xs.reverse ++ [.ref b] := by
          rw [← List.reverse_reverse v1, hxs, List.reverse_cons]
        have hpV : PreV s H Mj.1.cls b (zPc g D ws h (.ref b :: xs) H.size) xs := ⟨zPc_blind, hcell, zpre hE hB hW hS0 hf⟩
        have hst9 : (F0 m pc la (v1 ++ v2)).stack = xs.reverse ++ .ref b :: v2 := by
          show v1 ++ v2 = _
          rw [hv1, List.append_assoc]
          rfl
        have hn9 : xs.length = n - 1 := by
          rw [hv1, List.length_append, List.length_reverse] at hvl
          simp at hvl
          omega
        exact zcallX (vx_runV S9 (c2 hh w6) ⟨zCB hts hfr hlo k1 k4 hh k3 k2 hsig (hts _ (zat_ok w1)), hts _ (zat_ok w2), hts _ (zat_ok w3)⟩ hpV rfl hn9 hL.2.1 hst9 hcs hd hroom) hS0 hf (zafterX IH hF9 hB htab hhk hbk hmo hL hrc hrs k) (zafter IH hbk hmo hL hS2 hrc hrs k)
  · have hw : (bif Nat.beq r.1 5 then zat r.2.2.2 (.methodLink M.1.cls idx objectInit) else !Nat.beq r.1 7 && (match zmd r.2.1 with
      | some M9 => zcwI M.1.cls idx r M9
      | none => false)) = true := hw
    rw [h7, h5] at hw
    simp only [cond_false, Bool.not_false, Bool.true_and] at hw
    cases hMj : zmd r.2.1 with
    | none => rw [hMj] at hw; cases hw
    | some Mj =>
      rw [hMj] at hw
      have hw : zcwI M.1.cls idx r Mj = true := hw
      unfold zcwI at hw
      simp only [Bool.and_eq_true, decide_eq_true_eq] at hw
      obtain ⟨⟨w1, w2, w3⟩, w4⟩ := hw
      obtain ⟨hlt, k1, k2, k3, k4, k5, k6⟩ := key Mj hMj (hlt9 Mj hMj (Or.inr w2))
      have hsig : (parseMethodDescriptor Mj.1.desc).map (fun d => d.parameters.length) = some (n - 1) := by
        rcases k5 with ⟨k5, -⟩ | ⟨-, -, k5⟩
        · have := zat_eq k5 w2; cases this
        · exact k5
      have hh : Mj.2.2.2.2.1 = [] := List.isEmpty_iff.mp w3
      have hret : Mj.2.2.2.1 = none := by
        have h9 := List.all_eq_true.mp zini_none _ (List.mem_filter.mp k4).1
        rw [zwsM_nil hh] at h9
        have h9 : (!decide (Mj.1.name = "<init>") || Mj.2.2.2.1.isNone) = true := h9
        rw [decide_eq_true w1] at h9
        simpa using h9
      obtain ⟨c1, c2, c3⟩ := hcon _ _ _ _ _ _ _ hcall hlt Mj hMj args' k6 g D ws v1.reverse H.size hSa
      have fin : Nat.beq r.1 0 = false → (Nat.beq r.1 2 || Nat.beq r.1 4) = true → ((∀ (b : Addr) (xs : List Value), PreS s H (zPc g D ws h (.ref b :: xs) H.size) (.ref b :: xs) → ∀ (v9 : Option zv), o1 = .inl v9 → Met l Mj.1 (zws Mj) (zrm d ((h1.length + t1) - (h.length + t)) ((zsl h1 + 6 * t1) - (zsl h + 6 * t))) (zPc g D ws h (.ref b :: xs) H.size) (zQc g D ws h1 H.size o1) ((h1.length + t1) - (h.length + t)) ((zsl h1 + 6 * t1) - (zsl h + 6 * t)) (va_A ws H.size) → xs.length = n - 1 → (F0 m pc la (v1 ++ v2)).stack = xs.reverse ++ .ref b :: v2 → va_Run p l e R s m args below meth c H locs cells slots ((h1.length + t1) - (h.length + t)) ((zsl h1 + 6 * t1) - (zsl h + 6 * t)) (F0 m pc la (v1 ++ v2)) v2 (zQc g D ws h1 H.size o1 (Value.ref b :: xs).toArray) (va_A ws H.size))) → W p l e R s m args below meth c H locs cells slots Q (F0 m pc la (v1 ++ v2)) := by
        intro hr0 hr24 hrun
        unfold zargs at harg
        rw [hr0, hr24] at harg
        simp only [cond_true, cond_false] at harg
        rw [hr0] at hbk
        obtain ⟨v9, ho⟩ := zback_ret hbk
        rcases args' with _ | ⟨a0, as⟩
        · cases harg
        · obtain ⟨x0, xs, hxs, hx0, hSx⟩ := zS_cons hSa
          obtain ⟨b, rfl⟩ : ∃ b, x0 = .ref b := by
            rcases a0 with (_ | k9) | _
            · cases harg
            · have ha : k9 < 1000000 := by simpa [zisC, Nat.blt_eq] using harg
              rcases hx0 with ⟨-, z, -, h2⟩ | ⟨h2, -⟩
              · exact ⟨_, h2⟩
              · omega
            · cases harg
          rw [hxs] at c1
          have hv1 : v1 = xs.reverse ++ [.ref b] := by
            rw [← List.reverse_reverse v1, hxs, List.reverse_cons]
          have hst9 : (F0 m pc la (v1 ++ v2)).stack = xs.reverse ++ .ref b :: v2 := by
            show v1 ++ v2 = _
            rw [hv1, List.append_assoc]
            rfl
          have hn9 : xs.length = n - 1 := by
            rw [hv1, List.length_append, List.length_reverse] at hvl
            simp at hvl
            omega
          exact zcallR (hrun b xs ⟨zPc_blind, zpre hE hB hW hS0 hf⟩ v9 ho (c1 v9 ho hh) hn9 hst9) hS0 hf (zafter IH hbk hmo hL hS2 hrc hrs k)
      cases hr2 : Nat.beq r.1 2 with
      | true =>
        rw [hr2] at w4
        simp only [cond_true] at w4
        have e2 := Nat.eq_of_beq_eq_true hr2
        refine fin (by rw [e2]; rfl) (by rw [e2]; rfl) (fun b xs hp9 v9 ho hM hn9 hst9 => ?_)
        have hcb := zCB (mc := (h1.length + t1) - (h.length + t)) (ms := (zsl h1 + 6 * t1) - (zsl h + 6 * t)) hts hfr hlo k1 k4 hh k3 k2 hsig (hts _ (zat_ok w4))
        rw [hret] at hcb
        exact va_runI S9 hM ⟨hcb, w1, hts _ (zat_ok w2)⟩ hp9 rfl hn9 hL.2.1 hst9 hcs hd hroom
      | false =>
        rw [hr2] at w4
        simp only [cond_false, Bool.and_eq_true] at w4
        have e2 := Nat.eq_of_beq_eq_true w4.1
        refine fin (by rw [e2]; rfl) (by rw [e2]; rfl) (fun b xs hp9 v9 ho hM hn9 hst9 => ?_)
        have hcb := zCBN (mc := (h1.length + t1) - (h.length + t)) (ms := (zsl h1 + 6 * t1) - (zsl h + 6 * t)) hts hfr hlo k1 k4 hh k3 k2 hsig (hE.2.1 _ (zatN_ok w4.2) rfl)
        rw [hret] at hcb
        exact va_runIN S9 hM ⟨hcb, w1, hts _ (zat_ok w2)⟩ hp9 rfl hn9 hL.2.1 hst9 hcs hd hroom
end ZCall3
