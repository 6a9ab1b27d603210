theorem zmok_inv {mj : Nat} {M : zmrow} {nL rk na : Nat} {hs : List (Nat × Nat × Nat × Nat)} (hlt : mj < 289) (hM : zmd mj = some M) (hm : zmeth mj = some (nL, rk, na, hs)) : nL = M.2.2.1 ∧ M.2.2.1 ≤ 40 ∧ plainFor M.1 = true ∧ (M.2.2.2.2.1 = [] ∨ plainName M.1.cls = true) ∧ (M.1.cls ≠ "java/lang/invoke/MethodHandle" ∧ M.1.cls ≠ "java/lang/invoke/VarHandle") ∧ zhok M.1.cls M.2.2.2.2.1 hs = true ∧ Cond.initialized M.1.cls ∈ zGd ∧ zrk rk M.2.2.2.1 = true ∧
    ((zat M.2.2.2.2.2.2.1 (.static M.1) = true ∧ (parseMethodDescriptor M.1.desc).map (fun d => d.parameters.length) = some na) ∨ (zat M.2.2.2.2.2.2.1 (.static M.1) = false ∧ 1 ≤ na ∧ (parseMethodDescriptor M.1.desc).map (fun d => d.parameters.length) = some (na - 1))) := by
  have h := zmok_all mj hlt
  unfold zmok at h
  rw [hM, hm] at h
  obtain ⟨y, b, mL, ret, hh, pl⟩ := M
  simp only [Bool.and_eq_true, Bool.or_eq_true, decide_eq_true_eq] at h
  obtain ⟨⟨h1, h2, h3, h4⟩, ⟨h5, h6⟩, h7, h8, h9, h10⟩ := h
  refine ⟨Nat.eq_of_beq_eq_true h1, Nat.le_of_ble_eq_true h2, h3, ?_, ⟨h5, h6⟩, h7, zat_ok h8, h9, ?_⟩
  · rcases h4 with h4 | h4
    · exact Or.inl (List.isEmpty_iff.mp h4)
    · exact Or.inr h4
  · cases hst : zat pl.2.1 (.static y) with
    | true =>
      rw [hst] at h10
      exact Or.inl ⟨rfl, of_decide_eq_true h10⟩
    | false =>
      rw [hst] at h10
      simp only [cond_false, Bool.and_eq_true, decide_eq_true_eq] at h10
      exact Or.inr ⟨rfl, Nat.le_of_ble_eq_true h10.1, h10.2⟩
theorem zGood (M : zmrow) (hw : zwsM M ∈ zGd) : GoodIn zGd (zws M) := by
  intro w h
  have hm : w ∈ zGd := by
    rcases List.mem_cons.mp h with rfl | h
    · exact hw
    · exact h
  exact ⟨hm, good_of_word (List.mem_filter.mp hm).2⟩
section ZCall
variable {p : Program} {l : Launch} {e : Env} {R : Room} {s : State} {m : MethodId} {args : Array Value} {below : List Frame} {meth : Method} {c : Code} {Q : State → Prop} {g : zg} {D : va_G} {A : Nat → Prop} {scr : Option (List zv)}
/-- the walk from any place of this frame on -/
noncomputable def zIH (p : Program) (l : Launch) (e : Env) (R : Room) (s : State) (m : MethodId) (args : Array Value) (below : List Frame) (meth : Method) (c : Code) (Q : State → Prop) (g : zg) (D : va_G) (A : Nat → Prop) (cc : ByteArray) (mi nL : Nat) (ih : zF) : Prop :=
  ∀ (pc : Nat) (ls : List (Option zv)) (st : List zv) (h : zh) (t : Nat) (o : zo) (h' : zh) (t' : Nat), ih mi pc ls st h t = some (o, h', t') → ∀ (H : Heap) (locs : List Loc) (cells slots : Nat) (ws : va_W) (la : Array Slot) (vs : List Value), zW (zX g) D A s H ws h → va_S A s.heap H locs → zL (zX g) ws nL ls la → zS (zX g) ws st vs → cells + (h'.length + t') ≤ R.cells + (h.length + t) → slots + (zsl h' + 6 * t') ≤ R.slots + (zsl h + 6 * t) → zEnd p l e R s m args below meth c Q g D A cc mi nL o h' t' cells slots ws h t → W p l e R s m args below meth c H locs cells slots Q (F0 m pc la vs)
theorem zobj_ok {cc : ByteArray} {own nm : String} {mi nL pc idx pw : Nat} {ih : zF} {ls : List (Option zv)} {st : List zv} {h : zh} {t : Nat} {o : zo} {h' : zh} {t' : Nat} {H : Heap} {locs : List Loc} {cells slots : Nat} {ws : va_W} {la : Array Slot} {vs : List Value} (IH : zIH p l e R s m args below meth c Q g D A cc mi nL ih) (hF : zFr p s m args meth c cc own nm g scr D A) (hml : c.maxLocals = nL) (hfr : 1 ≤ R.frames) (hlo : 64 ≤ R.locals) (hd : decode cc pc = .ok (.invokespecial idx, 3)) (hw : zat pw (.methodLink own idx objectInit) = true) (e1 : zcallO ih mi pc ls st h t = some (o, h', t')) (hW : zW (zX g) D A s H ws h) (hS0 : va_S A s.heap H locs) (hL : zL (zX g) ws nL ls la) (hS : zS (zX g) ws st vs) (hrc : cells + (h'.length + t') ≤ R.cells + (h.length + t)) (hrs : slots + (zsl h' + 6 * t') ≤ R.slots + (zsl h + 6 * t)) (k : zEnd p l e R s m args below meth c Q g D A cc mi nL o h' t' cells slots ws h t) : W p l e R s m args below meth c H locs cells slots Q (F0 m pc la vs) := by
  obtain ⟨hx, hb, hown, hts, hnm, hE, hA⟩ := hF
  obtain ⟨a, st', rfl, ha, hcat, e2⟩ := zcallO_inv e1
  obtain ⟨v, t0, rfl, hv, hS1⟩ := zS_cons hS
  obtain ⟨q, rfl⟩ : ∃ q, v = .ref q := by
    rcases a with (_ | k9) | _
    · cases ha
    · have ha : k9 < 1000000 := by simpa [zisC, Nat.blt_eq] using ha
      rcases hv with ⟨-, z, -, h2⟩ | ⟨h2, -⟩
      · exact ⟨_, h2⟩
      · omega
    · cases ha
  have hc := zcat_ok zX_ref hS1
  refine W.objInit hx hb hown (hts _ (zat_ok hw)) (hts _ zob1) (hts _ zob2) rfl (hL.2.1.trans hml.symm) rfl hd hfr ?_ (IH _ _ _ _ _ _ _ _ e2 H locs cells slots ws la t0 hW hS0 hL hS1 hrc hrs k)
  show 2 * 0 + _ + 12 ≤ _
  omega
theorem zcpy_ok {cc : ByteArray} {own nm : String} {mi nL pc idx pw : Nat} {ih : zF} {ls : List (Option zv)} {st : List zv} {h : zh} {t : Nat} {o : zo} {h' : zh} {t' : Nat} {H : Heap} {locs : List Loc} {cells slots : Nat} {ws : va_W} {la : Array Slot} {vs : List Value} (IH : zIH p l e R s m args below meth c Q g D A cc mi nL ih) (hF : zFr p s m args meth c cc own nm g scr D A) (hml : c.maxLocals = nL) (hfr : 1 ≤ R.frames) (hlo : 64 ≤ R.locals) (hd : decode cc pc = .ok (.invokestatic idx, 3)) (hw : zat pw (.methodLink own idx arraycopyName) = true) (e1 : zcallC ih mi pc ls st h t = some (o, h', t')) (hW : zW (zX g) D A s H ws h) (hS0 : va_S A s.heap H locs) (hL : zL (zX g) ws nL ls la) (hS : zS (zX g) ws st vs) (hrc : cells + (h'.length + t') ≤ R.cells + (h.length + t)) (hrs : slots + (zsl h' + 6 * t') ≤ R.slots + (zsl h + 6 * t)) (k : zEnd p l e R s m args below meth c Q g D A cc mi nL o h' t' cells slots ws h t) : W p l e R s m args below meth c H locs cells slots Q (F0 m pc la vs) := by
  obtain ⟨hx, hb, hown, hts, hnm, hE, hA⟩ := hF
  obtain ⟨n, dp, b, sp, a, st', q0, q1, i, j, kk, f0, f1, rfl, ha, hb1, hcat, hi, hj, hk, ⟨hl0, hl1⟩, e2⟩ := zcallC_inv e1
  obtain ⟨vn, t0, rfl, hvn, hS1⟩ := zS_cons hS
  obtain ⟨vd, t1, rfl, hvd, hS2⟩ := zS_cons hS1
  obtain ⟨vb, t2, rfl, hvb, hS3⟩ := zS_cons hS2
  obtain ⟨vp, t3, rfl, hvp, hS4⟩ := zS_cons hS3
  obtain ⟨va, t4, rfl, hva, hS5⟩ := zS_cons hS4
  obtain ⟨xn, rfl, hn1, hn2, hn3, -⟩ := zix_inv hi hvn
  obtain ⟨xp, rfl, hp1, hp2, hp3, -⟩ := zix_inv hj hvp
  obtain ⟨xd, rfl, hd1, hd2, hd3, -⟩ := zix_inv hk hvd
  obtain ⟨rfl, hc0⟩ := zarr_inv ha
  obtain ⟨rfl, hc1⟩ := zarr_inv hb1
  obtain ⟨a0, el0, rfl, ha0, c0, y0, rfl, hy0, hAr0, ⟨g0, hg0⟩, hv0⟩ := zat_cell hW hva hc0
  obtain ⟨a1, el1, rfl, ha1, c1, y1, rfl, hy1, hAr1, ⟨g1, hg1⟩, hv1⟩ := zat_cell hW hvb hc1
  obtain ⟨n0, y02⟩ := y0
  obtain ⟨n1, y12⟩ := y1
  have hg0 : y02 = .inl g0 := hg0
  have hg1 : y12 = .inl g1 := hg1
  subst hg0
  subst hg1
  have hy0 : n0 = f0.length := hy0
  have hy1 : n1 = f1.length := hy1
  have hK : va_K D vwCl [(c0, .int), (c1, .int)] s := (zKt hE hAr0).app (zKt hE hAr1)
  have hcats := zcat_ok zX_ref hS5
  refine va_copyi (ty := .int) hx hb (by rw [hml]; exact hL.2.1.symm) hown (hts _ (zat_ok hw)) (hts _ zac1) (hts _ zac2) (hts _ zac3) hK hW.1 hW.2.1 hS0 q0 q1 0 1 ha0 ha1 rfl rfl rfl hp2 hd2 hn2 (by omega) (by omega) (fun i9 hi9 => rfl) hfr (by have : nativeFrameWords "java/lang/System" "arraycopy" 5 + 11 ≤ 40 := (by decide +kernel); omega) hd (fun H1 locs1 hP hD hS9 => ?_)
  rw [hn1, hp1, hd1] at hP hD
  have hm : zM ws (ws.set q1 (a1, .inl (c1, n1, .inl (va_cpy g0 g1 j kk i)))) := zM_set ha1
  have hcell : zcell (zX g) s ws (.inl (0, zcpl f0 f1 j kk i)) (.inl (c1, n1, .inl (va_cpy g0 g1 j kk i))) := by
    refine ⟨c1, (n1, .inl (va_cpy g0 g1 j kk i)), rfl, ?_, hAr1, ⟨_, rfl⟩, fun i9 a9 h9 => ?_⟩
    · show n1 = _
      rw [zcpl_len hl0 hl1]
      exact hy1
    · show zval (zX g) ws a9 (.int (va_cpy g0 g1 j kk i i9))
      unfold zcpl at h9
      unfold va_cpy
      by_cases c1 : i9 < kk
      · rw [List.getElem?_append_left (by rw [List.length_take]; omega), List.getElem?_take, if_pos c1] at h9
        rw [if_neg (by omega)]
        exact hv1 i9 a9 h9
      · rw [List.getElem?_append_right (by rw [List.length_take]; omega), List.length_take, Nat.min_eq_left (by omega)] at h9
        by_cases c2 : i9 < kk + i
        · rw [List.getElem?_append_left (by rw [List.length_take, List.length_drop]; omega), List.getElem?_take, if_pos (by omega), List.getElem?_drop] at h9
          rw [if_pos (by omega)]
          exact hv0 _ a9 h9
        · rw [List.getElem?_append_right (by rw [List.length_take, List.length_drop]; omega), List.length_take, List.length_drop, List.getElem?_drop, Nat.min_eq_left (by omega), show kk + i + (i9 - kk - i) = i9 by omega] at h9
          rw [if_neg (by omega)]
          exact hv1 i9 a9 h9
  have hW1 := zW_set hW ha1 hc1 hcell hP hD
  have hz : zsl (h.set q1 (.inl (0, zcpl f0 f1 j kk i))) = zsl h := zsl_set hc1 (zcpl_len hl0 hl1)
  have hn : (h.set q1 (.inl (0, zcpl f0 f1 j kk i))).length = h.length := List.length_set
  exact IH _ _ _ _ _ _ _ _ e2 H1 locs1 cells slots _ la t4 hW1 hS9 (zL_mono hm hL) (zS_mono hm hS5) (by omega) (by omega) (zEnd_step k hm (by omega) (by omega))
end ZCall
