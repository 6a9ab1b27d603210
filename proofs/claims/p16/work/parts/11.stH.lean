theorem zix_inv {X : Nat → Value → Prop} {ws : va_W} {a : zv} {n i : Nat} {v : Value} (h : zix a n = some i) (hv : zval X ws a v) : ∃ x : Int32, v = .int x ∧ x.toNatClampNeg = i ∧ ¬ x < 0 ∧ i < n ∧ vp_in x n := by
  rcases a with _ | (⟨x, _ | y⟩ | _)
  · cases h
  · have h : (bif decide (x < 0) then none else frc x.toNatClampNeg (fun i => bif Nat.blt i n then some i else none)) = some i := h
    cases h0 : decide (x < 0) with
    | true => rw [h0] at h; cases h
    | false =>
      rw [h0] at h
      simp only [cond_false, frc_eq] at h
      cases h1 : Nat.blt x.toNatClampNeg n with
      | false => rw [h1] at h; cases h
      | true =>
        rw [h1] at h
        cases h
        have h2 : x.toNatClampNeg < n := by simpa [Nat.blt_eq] using h1
        have h3 := of_decide_eq_false h0
        refine ⟨x, hv, rfl, h3, h2, fun q => ?_⟩
        rcases q with q | q
        · exact h3 q
        · omega
  · cases h
  · cases h
theorem zsize_inv {X : Nat → Value → Prop} {ws : va_W} {a : zv} {i : Nat} {v : Value} (h : zsize a = some i) (hv : zval X ws a v) : ∃ x : Int32, v = .int x ∧ x.toNatClampNeg = i ∧ ¬ x < 0 ∧ i ≤ 1000 := by
  rcases a with _ | (⟨x, _ | y⟩ | _)
  · cases h
  · have h : (bif decide (x < 0) then none else frc x.toNatClampNeg (fun i => bif Nat.ble i 1000 then some i else none)) = some i := h
    cases h0 : decide (x < 0) with
    | true => rw [h0] at h; cases h
    | false =>
      rw [h0] at h
      simp only [cond_false, frc_eq] at h
      cases h1 : Nat.ble x.toNatClampNeg 1000 with
      | false => rw [h1] at h; cases h
      | true =>
        rw [h1] at h
        cases h
        exact ⟨x, hv, rfl, of_decide_eq_false h0, Nat.le_of_ble_eq_true h1⟩
  · cases h
  · cases h
theorem zarr_inv {h : zh} {a : zv} {q t : Nat} {fs : List zv} (e : zarr h a = some (q, t, fs)) : a = .inl (some q) ∧ h[q]? = some (.inl (t, fs)) := by
  rcases a with (_ | k) | _
  · cases e
  · have e : (match nth h k with
      | some (.inl (t, fs)) => some (k, t, fs)
      | _ => none) = some (q, t, fs) := e
    rw [nth_eq] at e
    cases hc : h[k]? with
    | none => rw [hc] at e; cases e
    | some c =>
      rw [hc] at e
      rcases c with ⟨t1, f1⟩ | ⟨t1, f1⟩
      · cases e; exact ⟨rfl, hc⟩
      · cases e
  · cases e
theorem zfit_ok {X : Nat → Value → Prop} {ws : va_W} {t : Nat} {ty : FieldType} {a : zv} {v : Value} (hX : ∀ k v, X k v → v = .null ∨ ∃ q, v = .ref q) (h : zfit t a = true) (ht : zkt t ty = true) (hv : zval X ws a v) : narrow ty v = v ∧ fits ty v = true := by
  unfold zkt at ht
  split at ht
  · rcases a with _ | (a | _)
    · cases h
    · obtain ⟨x, rfl, -⟩ := zval_int.mp hv
      exact ⟨rfl, rfl⟩
    · cases h
  · rcases a with _ | (⟨x, _ | y⟩ | _)
    · cases h
    · have hv : v = .int x := hv
      subst hv
      have h : (decide (x = 0) || decide (x = 1)) = true := h
      simp only [Bool.or_eq_true, decide_eq_true_eq] at h
      rcases h with rfl | rfl
      · exact ⟨by decide, by decide⟩
      · exact ⟨by decide, by decide⟩
    · cases h
    · cases h
  · rcases a with a | _
    · rcases zref hX (a := .inl a) rfl hv with rfl | ⟨q, rfl⟩ <;> exact ⟨rfl, rfl⟩
    · cases h
  · rcases a with a | _
    · rcases zref hX (a := .inl a) rfl hv with rfl | ⟨q, rfl⟩ <;> exact ⟨rfl, rfl⟩
    · cases h
  · rcases a with _ | (_ | (w | _))
    · cases h
    · cases h
    · have hv : v = .long w := hv
      subst hv
      exact ⟨rfl, rfl⟩
    · cases h
  · cases ht
noncomputable def zdv (t : Nat) : Value := match t with
  | 0 => .int 0
  | 1 => .int 0
  | 3 => .long 0
  | _ => .null
theorem zdef_ok {X : Nat → Value → Prop} {ws : va_W} (t : Nat) : zval X ws (zdef t) (zdv t) := by
  match t with
  | 0 => rfl
  | 1 => rfl
  | 2 => rfl
  | 3 => rfl
  | n + 4 => rfl
theorem zdefs_ok {X : Nat → Value → Prop} {ws : va_W} : ∀ ks : List Nat, zS X ws (ks.map zdef) (ks.map zdv)
  | [] => trivial
  | t :: ks => ⟨zdef_ok t, zdefs_ok ks⟩
theorem zdv_ok {t : Nat} {ty : FieldType} (ht : zkt t ty = true) : defaultValue ty = zdv t := by
  unfold zkt at ht
  split at ht
  · rfl
  · rfl
  · rfl
  · rfl
  · rfl
  · cases ht
theorem zsl_set {h : zh} {k : Nat} {c0 c1 : zc} (hc : h[k]? = some c0) (hz : zsz c1 = zsz c0) : zsl (h.set k c1) = zsl h := by
  unfold zsl
  rw [List.map_set, hz]
  have : (h.map zsz).set k (zsz c0) = h.map zsz := by
    apply List.ext_getElem?
    intro i
    by_cases hi : i = k
    · subst hi
      rw [List.getElem?_set_self (by rw [List.length_map]; exact (List.getElem?_eq_some_iff.mp hc).1), List.getElem?_map, hc]
      rfl
    · rw [List.getElem?_set_ne (Ne.symm hi)]
  rw [this]
theorem zsl_app (h cs : zh) : zsl (h ++ cs) = zsl h + zsl cs := by
  unfold zsl
  rw [List.map_append, List.sum_append]
theorem hup_arr {h : zh} {k i t : Nat} {fs : List zv} {v : zv} (hc : h[k]? = some (.inl (t, fs))) : hup h k i v = h.set k (.inl (t, fs.set i v)) ∧ (hup h k i v).length = h.length ∧ zsl (hup h k i v) = zsl h := by
  have e : hup h k i v = h.set k (.inl (t, fs.set i v)) := by unfold hup; rw [hc]
  rw [e]
  exact ⟨rfl, List.length_set, zsl_set hc (by simp [zsz])⟩
theorem hup_obj {h : zh} {k i t : Nat} {fs : List zv} {v : zv} (hc : h[k]? = some (.inr (t, fs))) : hup h k i v = h.set k (.inr (t, fs.set i v)) ∧ (hup h k i v).length = h.length ∧ zsl (hup h k i v) = zsl h := by
  have e : hup h k i v = h.set k (.inr (t, fs.set i v)) := by unfold hup; rw [hc]
  rw [e]
  exact ⟨rfl, List.length_set, zsl_set hc (by simp [zsz])⟩
/-- an array's element is written -/
theorem zcell_put {X : Nat → Value → Prop} {s : State} {ws : va_W} {tg i : Nat} {fs : List zv} {a : zv} {cA : ClassId} {x x' : vp_A} (h : zcell X s ws (.inl (tg, fs)) (.inl (cA, x))) (hn : x'.1 = x.1) (hf : zform tg x') (hi : i < fs.length) (he : zval X ws a (zelt x' i)) (ho : ∀ j, j ≠ i → zelt x' j = zelt x j) : zcell X s ws (.inl (tg, fs.set i a)) (.inl (cA, x')) := by
  obtain ⟨cA1, x1, h1, h2, h3, h4, h5⟩ := h
  cases h1
  refine ⟨cA, x', rfl, by rw [List.length_set, hn]; exact h2, h3, hf, fun j b hj => ?_⟩
  by_cases hij : j = i
  · subst hij
    rw [List.getElem?_set_self hi] at hj
    cases hj
    exact he
  · rw [List.getElem?_set_ne (Ne.symm hij)] at hj
    rw [ho j hij]
    exact h5 j b hj
section ZH
variable {p : Program} {l : Launch} {e : Env} {R : Room} {s : State} {m : MethodId} {args : Array Value} {below : List Frame} {meth : Method} {c : Code} {H : Heap} {locs : List Loc} {cells slots : Nat} {Q : State → Prop}
variable {cc : ByteArray} {g : zg} {D : va_G} {A : Nat → Prop} {own nm : String} {scr : Option (List zv)} {ws : va_W} {hp : zh} {nL : Nat}
/-- what holds in a frame -/
noncomputable def zFr (p : Program) (s : State) (m : MethodId) (args : Array Value) (meth : Method) (c : Code) (cc : ByteArray) (own nm : String) (g : zg) (scr : Option (List zv)) (D : va_G) (A : Nat → Prop) : Prop := p.tables.exec = Jvm.exec ∧ c.code = cc ∧ s.vm.findClass own = some m.cls ∧ (∀ w ∈ zGd, w.before args s = true) ∧ meth.name = nm ∧ zE g scr D A s ∧ ∀ q, s.heap.size ≤ q → A q
/-- where the walk goes on -/
noncomputable def zK (p : Program) (l : Launch) (e : Env) (R : Room) (s : State) (m : MethodId) (args : Array Value) (below : List Frame) (meth : Method) (c : Code) (cells slots : Nat) (Q : State → Prop) (g : zg) (D : va_G) (A : Nat → Prop) (nL : Nat) (ws : va_W) (hp hp' : zh) (pc' : Nat) (ls' : List (Option zv)) (st' : List zv) : Prop :=
  ∀ (H' : Heap) (locs' : List Loc) (cells' slots' : Nat) (ws' : va_W) (la' : Array Slot) (vs' : List Value), zM ws ws' → zW (zX g) D A s H' ws' hp' → va_S A s.heap H' locs' → zL (zX g) ws' nL ls' la' → zS (zX g) ws' st' vs' → cells' + hp.length = cells + hp'.length → slots' + zsl hp = slots + zsl hp' → W p l e R s m args below meth c H' locs' cells' slots' Q (F0 m pc' la' vs')
theorem zK_same {pc' : Nat} {ls' : List (Option zv)} {st' : List zv} {la' : Array Slot} {vs' : List Value} (k : zK p l e R s m args below meth c cells slots Q g D A nL ws hp (hap hp none) pc' ls' st') (hW : zW (zX g) D A s H ws hp) (hS0 : va_S A s.heap H locs) (hL : zL (zX g) ws nL ls' la') (hS : zS (zX g) ws st' vs') : W p l e R s m args below meth c H locs cells slots Q (F0 m pc' la' vs') := k H locs cells slots ws la' vs' (zM_refl ws) hW hS0 hL hS rfl rfl
theorem zKt {cA : ClassId} {ty : FieldType} (hE : zE g scr D A s) (h : ArrOfT s cA ty ∧ va_RA s cA ty) : va_K D vwCl [(cA, ty)] s := ⟨hE.1.1, fun k q hk => by
  have h0 : k < 1 := (List.getElem?_eq_some_iff.mp hk).1
  have : k = 0 := by omega
  subst this
  cases hk
  exact h⟩
theorem zH_A {i : Instr} {len pc pc' : Nat} {r : zr} {ls ls' : List (Option zv)} {st st' : List zv} {z : zp} {la : Array Slot} {vs : List Value} (hx : p.tables.exec = Jvm.exec) (hb : c.code = cc) (hd : decode cc pc = .ok (i, len)) (hl : zlen i len = true) (h : (match stA i r pc ls st with
    | some (pc', ls', st') => some (pc', ls', st', (none : zp))
    | none => none) = some (pc', ls', st', z)) (hW : zW (zX g) D A s H ws hp) (hS0 : va_S A s.heap H locs) (hL : zL (zX g) ws nL ls la) (hS : zS (zX g) ws st vs) (k : zK p l e R s m args below meth c cells slots Q g D A nL ws hp (hap hp z) pc' ls' st') : W p l e R s m args below meth c H locs cells slots Q (F0 m pc la vs) := by
  cases ha : stA i r pc ls st with
  | none => rw [ha] at h; cases h
  | some q =>
    obtain ⟨a1, a2, a3⟩ := q
    rw [ha] at h
    cases h
    exact stA_ok zX_ref hx hb hd hl ha hL hS (fun la' vs' h1 h2 => zK_same k hW hS0 h1 h2)
/-- reading an element -/
theorem zald_inv {t : Nat → Bool} {pc pc' : Nat} {ls ls' : List (Option zv)} {st st' : List zv} {h : zh} {z : zp} (e : zald t pc ls st h = some (pc', ls', st', z)) : ∃ (ix : zv) (q tg i : Nat) (fs st1 : List zv) (v : zv), st = ix :: .inl (some q) :: st1 ∧ h[q]? = some (.inl (tg, fs)) ∧ t tg = true ∧ zix ix fs.length = some i ∧ fs[i]? = some v ∧ pc' = pc + 1 ∧ ls' = ls ∧ st' = v :: st1 ∧ z = none := by
  rcases st with _ | ⟨ix, _ | ⟨a, st1⟩⟩
  · cases e
  · cases e
  · have e : (match zarr h a with
      | some (_, tg, fs) => bif t tg then (match zix ix fs.length with
        | some i => match nth fs i with
          | some v => some (pc + 1, ls, v :: st1, (none : zp))
          | none => none
        | none => none) else none
      | none => none) = some (pc', ls', st', z) := e
    cases ha : zarr h a with
    | none => rw [ha] at e; cases e
    | some q =>
      obtain ⟨q, tg, fs⟩ := q
      obtain ⟨rfl, hc⟩ := zarr_inv ha
      rw [ha] at e
      cases ht : t tg with
      | false => simp only [ht, cond_false] at e; cases e
      | true =>
        simp only [ht, cond_true, nth_eq] at e
        cases hi : zix ix fs.length with
        | none => simp only [hi] at e; cases e
        | some i =>
          simp only [hi] at e
          cases hv : fs[i]? with
          | none => simp only [hv] at e; cases e
          | some v =>
            simp only [hv] at e
            cases e
            exact ⟨ix, q, tg, i, fs, st1, v, rfl, hc, ht, hi, hv, rfl, rfl, rfl, rfl⟩
theorem zast_inv {t : Nat → Bool} {f : Nat → zv → Bool} {pc pc' : Nat} {ls ls' : List (Option zv)} {st st' : List zv} {h : zh} {z : zp} (e : zast t f pc ls st h = some (pc', ls', st', z)) : ∃ (ix v : zv) (q tg i : Nat) (fs : List zv), st = v :: ix :: .inl (some q) :: st' ∧ h[q]? = some (.inl (tg, fs)) ∧ t tg = true ∧ f tg v = true ∧ zix ix fs.length = some i ∧ pc' = pc + 1 ∧ ls' = ls ∧ z = some (.inl (q, i, v)) := by
  rcases st with _ | ⟨v, _ | ⟨ix, _ | ⟨a, st1⟩⟩⟩
  · cases e
  · cases e
  · cases e
  · have e : (match zarr h a with
      | some (q, tg, fs) => bif t tg && f tg v then (match zix ix fs.length with
        | some i => some (pc + 1, ls, st1, (some (.inl (q, i, v)) : zp))
        | none => none) else none
      | none => none) = some (pc', ls', st', z) := e
    cases ha : zarr h a with
    | none => rw [ha] at e; cases e
    | some q =>
      obtain ⟨q, tg, fs⟩ := q
      obtain ⟨rfl, hc⟩ := zarr_inv ha
      rw [ha] at e
      cases ht : t tg && f tg v with
      | false => simp only [ht, cond_false] at e; cases e
      | true =>
        simp only [ht, cond_true] at e
        simp only [Bool.and_eq_true] at ht
        cases hi : zix ix fs.length with
        | none => simp only [hi] at e; cases e
        | some i =>
          simp only [hi] at e
          cases e
          exact ⟨ix, v, q, tg, i, fs, rfl, hc, ht.1, ht.2, hi, rfl, rfl, rfl⟩
theorem zH_iald {pc pc' : Nat} {ls ls' : List (Option zv)} {st st' : List zv} {z : zp} {la : Array Slot} {vs : List Value} (hF : zFr p s m args meth c cc own nm g scr D A) (hd : decode cc pc = .ok (.iaload, 1)) (h : zald (fun t => Nat.beq t 0) pc ls st hp = some (pc', ls', st', z)) (hW : zW (zX g) D A s H ws hp) (hS0 : va_S A s.heap H locs) (hL : zL (zX g) ws nL ls la) (hS : zS (zX g) ws st vs) (k : zK p l e R s m args below meth c cells slots Q g D A nL ws hp (hap hp z) pc' ls' st') : W p l e R s m args below meth c H locs cells slots Q (F0 m pc la vs) := by
  obtain ⟨ix, q, tg, i, fs, st1, v, rfl, hc, ht, hi, hv, rfl, rfl, rfl, rfl⟩ := zald_inv h
  have ht := Nat.eq_of_beq_eq_true ht
  subst ht
  obtain ⟨w, t0, rfl, hw, hS1⟩ := zS_cons hS
  obtain ⟨u, t1, rfl, hu, hS2⟩ := zS_cons hS1
  obtain ⟨x, rfl, rfl, h0, h1, hin⟩ := zix_inv hi hw
  obtain ⟨a, el, rfl, ha, cA, y, rfl, hy, hAr, ⟨f, hf⟩, hel⟩ := zat_cell hW hu hc
  obtain ⟨n, y2⟩ := y
  have hf : y2 = .inl f := hf
  subst hf
  have hy : n = fs.length := hy
  subst hy
  exact va_iald hF.1 hF.2.1 (zKt hF.2.2.2.2.2.1 hAr) hW.1 q 0 ha rfl hin hd (zK_same k hW hS0 hL ⟨hel _ _ hv, hS2⟩)
theorem zH_zald {pc pc' : Nat} {ls ls' : List (Option zv)} {st st' : List zv} {z : zp} {la : Array Slot} {vs : List Value} (hF : zFr p s m args meth c cc own nm g scr D A) (hd : decode cc pc = .ok (.baload, 1)) (h : zald (fun t => Nat.beq t 1) pc ls st hp = some (pc', ls', st', z)) (hW : zW (zX g) D A s H ws hp) (hS0 : va_S A s.heap H locs) (hL : zL (zX g) ws nL ls la) (hS : zS (zX g) ws st vs) (k : zK p l e R s m args below meth c cells slots Q g D A nL ws hp (hap hp z) pc' ls' st') : W p l e R s m args below meth c H locs cells slots Q (F0 m pc la vs) := by
  obtain ⟨ix, q, tg, i, fs, st1, v, rfl, hc, ht, hi, hv, rfl, rfl, rfl, rfl⟩ := zald_inv h
  have ht := Nat.eq_of_beq_eq_true ht
  subst ht
  obtain ⟨w, t0, rfl, hw, hS1⟩ := zS_cons hS
  obtain ⟨u, t1, rfl, hu, hS2⟩ := zS_cons hS1
  obtain ⟨x, rfl, rfl, h0, h1, hin⟩ := zix_inv hi hw
  obtain ⟨a, el, rfl, ha, cA, y, rfl, hy, hAr, ⟨f, hf⟩, hel⟩ := zat_cell hW hu hc
  obtain ⟨n, y2⟩ := y
  have hf : y2 = .inl f := hf
  subst hf
  have hy : n = fs.length := hy
  subst hy
  exact va_zald hF.1 hF.2.1 (zKt hF.2.2.2.2.2.1 hAr) hW.1 q 0 ha rfl hin hd (zK_same k hW hS0 hL ⟨hel _ _ hv, hS2⟩)
theorem zH_lald {pc pc' : Nat} {ls ls' : List (Option zv)} {st st' : List zv} {z : zp} {la : Array Slot} {vs : List Value} (hF : zFr p s m args meth c cc own nm g scr D A) (hd : decode cc pc = .ok (.laload, 1)) (h : zald (fun t => Nat.beq t 2) pc ls st hp = some (pc', ls', st', z)) (hW : zW (zX g) D A s H ws hp) (hS0 : va_S A s.heap H locs) (hL : zL (zX g) ws nL ls la) (hS : zS (zX g) ws st vs) (k : zK p l e R s m args below meth c cells slots Q g D A nL ws hp (hap hp z) pc' ls' st') : W p l e R s m args below meth c H locs cells slots Q (F0 m pc la vs) := by
  obtain ⟨ix, q, tg, i, fs, st1, v, rfl, hc, ht, hi, hv, rfl, rfl, rfl, rfl⟩ := zald_inv h
  have ht := Nat.eq_of_beq_eq_true ht
  subst ht
  obtain ⟨w, t0, rfl, hw, hS1⟩ := zS_cons hS
  obtain ⟨u, t1, rfl, hu, hS2⟩ := zS_cons hS1
  obtain ⟨x, rfl, rfl, h0, h1, hin⟩ := zix_inv hi hw
  obtain ⟨a, el, rfl, ha, cA, y, rfl, hy, hAr, ⟨f, hf⟩, hel⟩ := zat_cell hW hu hc
  obtain ⟨n, y2⟩ := y
  have hf : y2 = .inr (.inl f) := hf
  subst hf
  have hy : n = fs.length := hy
  subst hy
  exact va_lald hF.1 hF.2.1 (zKt hF.2.2.2.2.2.1 hAr) hW.1 q 0 ha rfl hin hd (zK_same k hW hS0 hL ⟨hel _ _ hv, hS2⟩)
theorem zH_aald {pc pc' : Nat} {ls ls' : List (Option zv)} {st st' : List zv} {z : zp} {la : Array Slot} {vs : List Value} (hF : zFr p s m args meth c cc own nm g scr D A) (hd : decode cc pc = .ok (.aaload, 1)) (h : zald (fun t => Nat.ble 3 t && Nat.ble t 5) pc ls st hp = some (pc', ls', st', z)) (hW : zW (zX g) D A s H ws hp) (hS0 : va_S A s.heap H locs) (hL : zL (zX g) ws nL ls la) (hS : zS (zX g) ws st vs) (k : zK p l e R s m args below meth c cells slots Q g D A nL ws hp (hap hp z) pc' ls' st') : W p l e R s m args below meth c H locs cells slots Q (F0 m pc la vs) := by
  obtain ⟨ix, q, tg, i, fs, st1, v, rfl, hc, ht, hi, hv, rfl, rfl, rfl, rfl⟩ := zald_inv h
  simp only [Bool.and_eq_true] at ht
  have ht1 := Nat.le_of_ble_eq_true ht.1
  have ht2 := Nat.le_of_ble_eq_true ht.2
  obtain ⟨w, t0, rfl, hw, hS1⟩ := zS_cons hS
  obtain ⟨u, t1, rfl, hu, hS2⟩ := zS_cons hS1
  obtain ⟨x, rfl, rfl, h0, h1, hin⟩ := zix_inv hi hw
  obtain ⟨a, el, rfl, ha, cA, y, rfl, hy, hAr, hfm, hel⟩ := zat_cell hW hu hc
  have hr : (zty tg).isReference = true := by
    rcases (show tg = 3 ∨ tg = 4 ∨ tg = 5 by omega) with rfl | rfl | rfl <;> rfl
  obtain ⟨f, hf⟩ : ∃ f, y.2 = .inr (.inr (.inr (.inr f))) := by
    rcases (show tg = 3 ∨ tg = 4 ∨ tg = 5 by omega) with rfl | rfl | rfl <;> exact hfm
  obtain ⟨n, y2⟩ := y
  have hf : y2 = .inr (.inr (.inr (.inr f))) := hf
  subst hf
  have hy : n = fs.length := hy
  subst hy
  have hlt : x.toNatClampNeg < fs.length := h1
  exact W.aald (v := va_rf (f x.toNatClampNeg)) (ty := zty tg) hF.1 hF.2.1 (hW.1 q _ ha) (hAr.1 fs.length (fun j => va_rf (f j))) hr (fun q => by cases q) (by show ¬ (x < 0 ∨ (arrV _ _ _).slots.size ≤ _); rw [arrV_size]; exact hin) (by show (arrV _ _ _).slots[_]? = _; rw [arrV_read _ _ hlt]) rfl rfl hd (zK_same k hW hS0 hL ⟨hel _ _ hv, hS2⟩)
end ZH
