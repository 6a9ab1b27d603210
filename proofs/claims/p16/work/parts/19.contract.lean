theorem zpop_ok : ∀ (n : Nat) {acc st a r : List zv}, zpop n acc st = some (a, r) → ∃ p : List zv, st = p ++ r ∧ p.length = n ∧ a = p.reverse ++ acc
  | 0, acc, st, a, r, h => by
    have h : some (acc, st) = some (a, r) := h
    cases h
    exact ⟨[], rfl, rfl, rfl⟩
  | n + 1, acc, [], a, r, h => by cases h
  | n + 1, acc, b :: st, a, r, h => by
    have h : zpop n (b :: acc) st = some (a, r) := h
    obtain ⟨p, h1, h2, h3⟩ := zpop_ok n h
    exact ⟨b :: p, by rw [h1]; rfl, by simp [h2], by rw [h3]; simp⟩
section ZCt
variable {X : Nat → Value → Prop} {ws : va_W}
theorem zS_split : ∀ {s1 s2 : List zv} {vs : List Value}, zS X ws (s1 ++ s2) vs → ∃ v1 v2 : List Value, vs = v1 ++ v2 ∧ zS X ws s1 v1 ∧ zS X ws s2 v2
  | [], s2, vs, h => ⟨[], vs, rfl, trivial, h⟩
  | a :: s1, s2, vs, h => by
    obtain ⟨v, t, rfl, hv, h2⟩ := zS_cons h
    obtain ⟨v1, v2, rfl, h3, h4⟩ := zS_split h2
    exact ⟨v :: v1, v2, rfl, ⟨hv, h3⟩, h4⟩
theorem zS_rev : ∀ {st : List zv} {vs : List Value}, zS X ws st vs → zS X ws st.reverse vs.reverse
  | [], [], _ => trivial
  | a :: st, v :: vs, h => by
    rw [List.reverse_cons, List.reverse_cons]
    exact zS_app (zS_rev h.2) ⟨h.1, trivial⟩
  | [], _ :: _, h => h.elim
  | _ :: _, [], h => h.elim
theorem zcat_ok (hX : ∀ k v, X k v → v = .null ∨ ∃ q, v = .ref q) : ∀ {st : List zv} {vs : List Value}, zS X ws st vs → (vs.map fun v => v.category).sum ≤ zcat st
  | [], [], _ => Nat.le_refl _
  | a :: st, v :: vs, h => by
    have h1 := zcat_ok hX h.2
    have h2 : v.category ≤ (bif zisL a then 2 else 1) := by
      cases ha : zisL a with
      | true => obtain ⟨w, -, rfl⟩ := zlong ha h.1; exact Nat.le_refl _
      | false => rw [zcat1 hX ha h.1]; exact Nat.le_refl _
    simp only [zcat, List.map_cons, List.sum_cons] at h1 ⊢
    omega
  | [], _ :: _, h => h.elim
  | _ :: _, [], h => h.elim
theorem zent_inv {args : List zv} {nL : Nat} {l0 : List (Option zv)} (h : zent args nL = some l0) : (∀ a ∈ args, zisL a = false) ∧ args.length ≤ nL ∧ l0 = args.map some ++ List.replicate (nL - args.length) none := by
  unfold zent at h
  cases hb : args.all (fun a => !zisL a) && Nat.ble args.length nL with
  | false => rw [hb] at h; cases h
  | true =>
    rw [hb] at h
    simp only [cond_true, appK_eq] at h
    cases h
    simp only [Bool.and_eq_true] at hb
    refine ⟨fun a ha => ?_, Nat.le_of_ble_eq_true hb.2, rfl⟩
    have := List.all_eq_true.mp hb.1 a ha
    simpa using this
theorem zcat_all (hX : ∀ k v, X k v → v = .null ∨ ∃ q, v = .ref q) : ∀ {st : List zv} {vs : List Value}, zS X ws st vs → (∀ a ∈ st, zisL a = false) → ∀ v ∈ vs, v.category = 1
  | [], [], _, _, v, hv => (by cases hv)
  | a :: st, w :: vs, h, hl, v, hv => by
    rcases List.mem_cons.mp hv with rfl | hv
    · exact zcat1 hX (hl a List.mem_cons_self) h.1
    · exact zcat_all hX h.2 (fun b hb => hl b (List.mem_cons_of_mem _ hb)) v hv
  | [], _ :: _, h, _, _, _ => h.elim
  | _ :: _, [], h, _, _, _ => h.elim
theorem zlg_sl : ∀ (vs : List Value), (∀ v ∈ vs, v.category = 1) → lg_sl vs = vs.map Slot.val
  | [], _ => rfl
  | v :: vs, h => by
    have h1 : v.category = 1 := h v List.mem_cons_self
    have h2 := zlg_sl vs (fun w hw => h w (List.mem_cons_of_mem _ hw))
    unfold lg_sl at h2 ⊢
    rw [List.flatMap_cons, h2, if_neg (by omega)]
    rfl
theorem zent_ok (hX : ∀ k v, X k v → v = .null ∨ ∃ q, v = .ref q) {args : List zv} {nL : Nat} {l0 : List (Option zv)} {As : List Value} (h : zent args nL = some l0) (hS : zS X ws args As) : (∀ v ∈ As, v.category = 1) ∧ zL X ws nL l0 ((As.map Slot.val ++ List.replicate (nL - As.length) Slot.unset).toArray) := by
  obtain ⟨h1, h2, rfl⟩ := zent_inv h
  have hc := zcat_all hX hS h1
  have hlen := zS_len hS
  have hle := lv_entry As (n := nL) (by rw [zlg_sl As hc, List.length_map, hlen]; exact h2)
  rw [zlg_sl As hc, List.length_map] at hle
  refine ⟨hc, by simp; omega, hle.1, hle.2.1, fun i a hi => ?_⟩
  have hil : i < args.length := by
    rcases Nat.lt_or_ge i args.length with q | q
    · exact q
    · rw [List.getElem?_append_right (by simpa using q)] at hi
      have := List.eq_of_mem_replicate (List.mem_of_getElem? hi)
      cases this
  rw [List.getElem?_append_left (by simpa using hil), List.getElem?_map] at hi
  cases ha : args[i]? with
  | none => rw [ha] at hi; cases hi
  | some b =>
    rw [ha] at hi
    cases hi
    obtain ⟨v, hv1, hv2⟩ := zS_get hS ha
    refine ⟨v, ?_, hv2⟩
    rw [List.getElem?_toArray, List.getElem?_append_left (by rw [List.length_map, hlen]; exact hil), List.getElem?_map, hv1]
    rfl
end ZCt
/-- words that the tables decide, of throws: they go with the tables -/
noncomputable def zBw : List Cond := [.castable "java/util/NoSuchElementException" "java/util/NoSuchElementException", .castable "java/lang/IllegalArgumentException" "java/lang/IllegalArgumentException", .declares ⟨"java/lang/RuntimeException", "<init>", "(Ljava/lang/String;)V"⟩, .declares ⟨"java/lang/Exception", "<init>", "(Ljava/lang/String;)V"⟩, .declares ⟨"java/lang/Throwable", "<init>", "(Ljava/lang/String;)V"⟩]
noncomputable def zB (U : State) : Prop := ∀ w ∈ zBw, va_Nw w U
theorem zcastW {C T : String} {s U : State} (hvm : s.vm.Alike U.vm) (h : va_Nw (.castable C T) s) : va_Nw (.castable C T) U := by
  unfold va_Nw at h ⊢
  simp only [Cond.before, Cond.holds, Cond.value] at h ⊢
  rw [hvm.findClass, hvm.findClass]
  simpa only [hvm.assignable] using h
theorem zB_warm {s U : State} (hW : s.WarmedH U.vm) (h : zB s) : zB U := by
  intro w hw
  have h1 := h w hw
  unfold zBw at hw
  simp only [List.mem_cons, List.not_mem_nil, or_false] at hw
  rcases hw with rfl | rfl | rfl | rfl | rfl
  · exact zcastW hW.alike h1
  · exact zcastW hW.alike h1
  · exact va_Nw.warmD hW h1
  · exact va_Nw.warmD hW h1
  · exact va_Nw.warmD hW h1
theorem zAOA_warm {s U : State} (hW : s.WarmedH U.vm) (h : va_AOA .int s) : va_AOA .int U := by
  have h1 : (Cond.arrayOver (.array .int)).before #[] (s.setVm U.vm) = true := (Cond.arrayOver_setVmC hW.alike _).trans h
  exact h1
/-- what is outside goes on into a callee -/
theorem zE_step {g : zg} {scr : Option (List zv)} {D : va_G} {A B : Nat → Prop} {s U : State} {H : Heap} {locs : List Loc} (hE : zE g scr D A s) (hS : va_S A s.heap H locs) (hAB : ∀ q, B q → A q) (hU : U.heap = H) (hW : s.WarmedH U.vm) : zE g none D B U := by
  obtain ⟨e1, e2, ⟨e3, e4, e5⟩, ⟨e6, e7, e8, -⟩, ⟨e9, e10⟩, ⟨e11, e12⟩, ⟨e13, e14, e15, e16⟩, e17, e18⟩ := hE
  have ha := hW.alike
  refine ⟨va_K.moved ha e1, fun w hw hn => ?_, ⟨va_AO.moved ha e3, va_AO.moved ha e4, zAOA_warm hW e5⟩, ⟨?_, ?_, fun q => e8 (hAB _ q), fun l hl => (by cases hl)⟩, ⟨fun i hi => ?_, fun i q hq => vk_R.warm hW (e10 i q hq)⟩, ⟨?_, ?_⟩, ⟨vk_R.warm hW e13, vk_R.warm hW e14, ?_, ?_⟩, va_Nc.moved ha e17, va_Nc.moved ha e18⟩
  · have h1 := e2 w hw hn
    cases w <;> first | (cases hn; done) | exact va_Nw.warmF hW h1 | exact va_Nw.warmM hW h1
  · rw [hU]
    exact va_X.moved ha (e6.kept (hS.2.1 _ e7 e8))
  · rw [hU]
    exact Nat.lt_of_lt_of_le e7 hS.1
  · rw [hU]
    exact vk_S.moved ha (((e9 i hi).kept hS.2.1).narrow hAB)
  · rw [hU]
    exact va_Z.moved ha ((e11.kept hS.2.1).narrow hAB)
  · rw [hU]
    exact va_Zq.moved ha ((e12.kept hS.2.1).narrow hAB)
  · rw [hU]
    exact vx_Zq.moved ha ((e15.kept hS.2.1).narrow hAB)
  · rw [hU]
    exact vx_Zq.moved ha ((e16.kept hS.2.1).narrow hAB)
theorem zW_enter {g : zg} {D : va_G} {A : Nat → Prop} {s U : State} {H : Heap} {ws : va_W} {h : zh} {sz : Nat} (hW : zW (zX g) D A s H ws h) (ha : s.vm.Alike U.vm) : zW (zX g) D (va_A ws sz) U H ws h := ⟨hW.1, hW.2.1.self, hW.2.2.1, hW.2.2.2.1, fun k c hk => by
  obtain ⟨q, h1, h2⟩ := hW.2.2.2.2 k c hk
  exact ⟨q, h1, zcell_moved ha h2⟩⟩
theorem zW_back {g : zg} {D : va_G} {A B : Nat → Prop} {s U : State} {H : Heap} {ws : va_W} {h : zh} (hW : zW (zX g) D B U H ws h) (hBA : ∀ q, B q → A q) (ha : U.vm.Alike s.vm) : zW (zX g) D A s H ws h := ⟨hW.1, hW.2.1.weaken (fun _ _ _ q => hBA _ q), hW.2.2.1, hW.2.2.2.1, fun k c hk => by
  obtain ⟨q, h1, h2⟩ := hW.2.2.2.2 k c hk
  exact ⟨q, h1, zcell_moved ha h2⟩⟩
/-- what a callee answers -/
noncomputable def zRv (g : zg) (o : zo) (vv : Option Value) (ws' : va_W) : Prop := (o = .inl none ∧ vv = none) ∨ ∃ (v : zv) (x : Value), o = .inl (some v) ∧ vv = some x ∧ zval (zX g) ws' v x
noncomputable def zPc (g : zg) (D : va_G) (ws : va_W) (h : zh) (As : List Value) (sz : Nat) : Array Value → State → Prop := va_Pc As (fun U => U.heap.size = sz ∧ zW (zX g) D (va_A ws sz) U U.heap ws h ∧ zE g none D (va_A ws sz) U ∧ zB U)
noncomputable def zQc (g : zg) (D : va_G) (ws : va_W) (h' : zh) (sz : Nat) (o : zo) : Array Value → State → Outcome → State → Prop := fun _ st oc t => (∃ (vv : Option Value) (ws' : va_W), oc = .returned vv ∧ zRv g o vv ws' ∧ zM ws ws' ∧ zW (zX g) D (va_A ws sz) t t.heap ws' h') ∧ va_F (va_A ws sz) st t
noncomputable def zXC (g : zg) (D : va_G) (ws : va_W) (h' : zh) (sz : Nat) (o : zo) : String → State → State → Prop := fun E st t => (∃ (ee : Nat) (ws' : va_W), o = .inr ee ∧ E = zEn ee ∧ ee ≤ 1 ∧ zM ws ws' ∧ zW (zX g) D (va_A ws sz) t t.heap ws' h') ∧ va_F (va_A ws sz) st t
theorem zPc_blind {g : zg} {D : va_G} {ws : va_W} {h : zh} {As : List Value} {sz : Nat} : FrameBlind (zPc g D ws h As sz) := by
  intro a U g9 mk q
  obtain ⟨q0, q1, q2, q3, q4⟩ := q
  have hW : U.WarmedH (U.calling g9 mk a).vm := State.WarmedH.refl U
  exact ⟨q0, q1, zW_back q2 (fun _ h => h) hW.alike, zE_step q3 va_S.rf (fun _ h => h) rfl hW, zB_warm hW q4⟩
noncomputable def zwsM (M : zmrow) : Cond := bif M.2.2.2.2.1.isEmpty then .code M.1 M.2.1 M.2.2.1 M.2.2.2.1 else .codeWith M.1 M.2.1 M.2.2.1 M.2.2.2.1 M.2.2.2.2.1
noncomputable def zws (M : zmrow) : List Cond := zwsM M :: zGd
