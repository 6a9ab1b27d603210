/-! THE START: both objects are made -/
theorem zloop_up {scr : Option (List zv)} {call : zC} : ∀ n : Nat, qlf (zloop scr call n) (zloop scr call (n + 1))
  | 0 => fun _ _ _ _ _ _ _ e => (by cases e)
  | n + 1 => zgo_le (fun _ _ _ _ _ e => e) (zloop_up n)
theorem zrun_up (nn : Nat) : ∀ d : Nat, qle (zrun nn d) (zrun (nn + 1) d)
  | 0 => fun _ _ _ _ _ e => (by cases e)
  | d + 1 => fun mj l0 h t x e => zloop_up nn mj 0 l0 [] h t x (zloop_le (zrun_up nn d) nn mj 0 l0 [] h t x e)
theorem qE_ev {nn d mi t : Nat} {l0 : List (Option zv)} {h : zh} {x : zo × zh × Nat} (e : zrun nn d mi l0 h t = some x) : qE d mi l0 h t x := by
  refine ⟨nn, fun m hm => ?_⟩
  induction hm with
  | refl => exact e
  | step _ ih => exact zrun_up _ d _ _ _ _ _ ih
def k11 : List Nat := [2, 0, 0, 0, 0, 2, 2, 2, 2, 2, 2]
def k12 : List Nat := [0, 2, 0, 0, 0, 0, 0, 0, 2, 2, 2, 2, 0, 2, 2, 2, 2, 2, 2, 2, 2, 2, 2, 2, 2, 2, 0, 0, 0, 0, 0, 1, 1, 2, 2, 2, 2, 2, 2, 0, 0, 0, 0, 0, 0, 0, 2, 1]
noncomputable def mkA : Option zh := match zrun 300 12 131 [some (.inl (some 0))] [.inr (11, k11.map zdef)] 0 with
  | some (.inl none, h1, 0) => bif Nat.beq h1.length 52 then some h1 else none
  | _ => none
noncomputable def mkB (h1 : zh) : Option zh := match zrun 300 12 159 [some (.inl (some 52))] (h1 ++ [.inr (12, k12.map zdef)]) 0 with
  | some (.inl none, h2, 0) => bif Nat.beq h2.length 388 then some h2 else none
  | _ => none
noncomputable def tyvb (τ : List Nat) (q : qs) (v : zv) : Bool := match q, v with
  | .inl (l, u), .inr (.inl (x, none)) => ile l x.toInt && ile x.toInt u
  | .inr (.inl (_, nl)), .inl none => nl
  | .inr (.inl (T, _)), .inl (some a) => (match nth τ a with
    | some T' => Nat.beq T' T
    | none => false)
  | .inr (.inr _), .inr (.inr (.inl _)) => true
  | _, _ => false
theorem tyvb_ok {τ : List Nat} {q : qs} {v : zv} (h : tyvb τ q v = true) : tyv τ q v := by
  unfold tyvb at h
  split at h
  · rename_i l u x
    simp only [Bool.and_eq_true] at h
    exact ⟨x, rfl, ile_iff.mp h.1, ile_iff.mp h.2⟩
  · exact Or.inl ⟨h, rfl⟩
  · rename_i T nl a
    rw [nth_eq] at h
    cases ha : τ[a]? with
    | none => rw [ha] at h; cases h
    | some T' =>
      rw [ha] at h
      have e := Nat.eq_of_beq_eq_true h
      subst e
      exact Or.inr ⟨a, rfl, ha⟩
  · rename_i w
    exact ⟨w, rfl⟩
  · cases h
noncomputable def arrb (τ : List Nat) (rs : List (Nat × qs)) : List zv → Nat → Bool := List.rec (motive := fun _ => Nat → Bool) (fun _ => true) (fun v _ ih i => (match srng rs i with
  | some q => tyvb τ q v
  | none => false) && frc (i + 1) ih)
theorem arrb_ok {τ : List Nat} {rs : List (Nat × qs)} : ∀ {fs : List zv} {i : Nat}, arrb τ rs fs i = true → ∀ (j : Nat) (v : zv), fs[j]? = some v → ∃ q : qs, srng rs (i + j) = some q ∧ tyv τ q v
  | [], _, _, j, v, hv => by cases hv
  | w :: fs, i, h, j, v, hv => by
    have h : ((match srng rs i with
      | some q => tyvb τ q w
      | none => false) && frc (i + 1) (arrb τ rs fs)) = true := h
    simp only [Bool.and_eq_true, frc_eq] at h
    cases j with
    | zero =>
      cases hv
      cases hq : srng rs i with
      | none => rw [hq] at h; cases h.1
      | some q =>
        rw [hq] at h
        exact ⟨q, rfl, tyvb_ok h.1⟩
    | succ j =>
      obtain ⟨q, e1, e2⟩ := arrb_ok h.2 j v hv
      exact ⟨q, by rw [← e1]; congr 1; omega, e2⟩
noncomputable def objb (τ : List Nat) : List qs → List zv → Bool
  | [], [] => true
  | q :: qs', v :: vs => tyvb τ q v && objb τ qs' vs
  | _, _ => false
theorem objb_ok {τ : List Nat} : ∀ {ss : List qs} {fs : List zv}, objb τ ss fs = true → fs.length = ss.length ∧ ∀ (i : Nat) (v : zv), fs[i]? = some v → ∃ q : qs, ss[i]? = some q ∧ tyv τ q v
  | [], [], _ => ⟨rfl, fun i v hv => (by cases hv)⟩
  | q :: ss, v :: fs, h => by
    unfold objb at h
    simp only [Bool.and_eq_true] at h
    obtain ⟨e1, e2⟩ := objb_ok h.2
    refine ⟨by simp [e1], fun i w hw => ?_⟩
    cases i with
    | zero =>
      cases hw
      exact ⟨q, rfl, tyvb_ok h.1⟩
    | succ i => exact e2 i w hw
  | [], _ :: _, h => by cases h
  | _ :: _, [], h => by cases h
noncomputable def tycb (τ : List Nat) (T : Nat) (c : zc) : Bool := match atyp T, c with
  | some (.inl (tg, L, rs)), .inl (tg', fs) => Nat.beq tg' tg && (Nat.beq fs.length L && arrb τ rs fs 0)
  | some (.inr (ci, ss)), .inr (ci', fs) => Nat.beq ci' ci && objb τ ss fs
  | _, _ => false
theorem tycb_ok {τ : List Nat} {T : Nat} {c : zc} (h : tycb τ T c = true) : tyc τ T c := by
  unfold tycb at h
  unfold tyc
  split at h
  · rename_i tg L rs tg' fs ht
    simp only [Bool.and_eq_true] at h
    rw [ht]
    refine ⟨Nat.eq_of_beq_eq_true h.1, Nat.eq_of_beq_eq_true h.2.1, fun i v hv => ?_⟩
    obtain ⟨q, e1, e2⟩ := arrb_ok h.2.2 i v hv
    rw [Nat.zero_add] at e1
    exact ⟨q, e1, e2⟩
  · rename_i ci ss ci' fs ht
    simp only [Bool.and_eq_true] at h
    rw [ht]
    obtain ⟨e1, e2⟩ := objb_ok h.2
    exact ⟨Nat.eq_of_beq_eq_true h.1, e1, e2⟩
  · cases h
noncomputable def celb (τ : List Nat) : List Nat → zh → Nat → Bool := List.rec (motive := fun _ => zh → Nat → Bool) (fun h _ => h.isEmpty) (fun T _ ih h k => match h with
  | [] => false
  | c :: r => (Nat.ble 1000 T || Nat.beq k T) && (tycb τ T c && frc (k + 1) (ih r)))
theorem celb_ok {τ : List Nat} : ∀ {Ts : List Nat} {h : zh} {k : Nat}, celb τ Ts h k = true → Ts.length = h.length ∧ ∀ (j T : Nat), Ts[j]? = some T → (T < 1000 → k + j = T) ∧ ∃ c : zc, h[j]? = some c ∧ tyc τ T c
  | [], h, k, e => by
    have e : h.isEmpty = true := e
    rw [List.isEmpty_iff.mp e]
    exact ⟨rfl, fun j T hj => (by cases hj)⟩
  | U :: Ts, [], k, e => by cases e
  | U :: Ts, c :: r, k, e => by
    have e : ((Nat.ble 1000 U || Nat.beq k U) && (tycb τ U c && frc (k + 1) (celb τ Ts r))) = true := e
    simp only [Bool.and_eq_true, frc_eq, Bool.or_eq_true] at e
    obtain ⟨e1, e2, e3⟩ := e
    obtain ⟨a, b⟩ := celb_ok e3
    refine ⟨by simp [a], fun j T hj => ?_⟩
    cases j with
    | zero =>
      cases hj
      refine ⟨fun h9 => ?_, c, rfl, tycb_ok e2⟩
      rcases e1 with e1 | e1
      · have := Nat.le_of_ble_eq_true e1
        omega
      · have := Nat.eq_of_beq_eq_true e1
        omega
    | succ j =>
      obtain ⟨b1, b2⟩ := b j T hj
      exact ⟨fun h9 => by have := b1 h9; omega, b2⟩
def k7b (h : zh) : Bool := (List.range 300).all (fun k => match hsl h 70 k with
  | some (.inl (some q)) => Nat.beq q (71 + k)
  | _ => false)
def z0b (o : Option zv) : Bool := match o with
  | some (.inr (.inl (x, none))) => ieq x.toInt 0
  | _ => false
theorem z0b_ok {o : Option zv} (h : z0b o = true) : ∃ x : Int32, o = some (zi x) ∧ x.toInt = 0 := by
  unfold z0b at h
  split at h
  · rename_i x
    exact ⟨x, rfl, ieq_iff.mp h⟩
  · cases h
noncomputable def staB (h : zh) : Bool := celb atau atau h 0 && (Nat.ble (h.length + (9 * (znul h 29 + znul h 36) + 11 * znul h 14)) 5899 && (k7b h && (z0b (hsl h 0 1) && z0b (hsl h 52 2))))
def outC : zc := .inl (2, [.inr (.inr (.inl 0))])
noncomputable def mkAll : Bool := match mkA with
  | some h1 => (match mkB h1 with
    | some h2 => staB (h2 ++ [outC])
    | none => false)
  | none => false
theorem mkAll_ok : mkAll = true := by decide +kernel
theorem staB_ok {h : zh} (e : staB h = true) : hG atau h ∧ (∃ x : Int32, hsl h 0 1 = some (zi x) ∧ x.toInt = 0) ∧ ∃ x : Int32, hsl h 52 2 = some (zi x) ∧ x.toInt = 0 := by
  unfold staB at e
  simp only [Bool.and_eq_true] at e
  obtain ⟨e1, e2, e3, e4, e5⟩ := e
  obtain ⟨a, b⟩ := celb_ok e1
  have e2 := Nat.le_of_ble_eq_true e2
  refine ⟨⟨⟨a, by omega, aup_refl _, fun k T hk => ?_⟩, e2, fun k hk => ?_⟩, z0b_ok e4, z0b_ok e5⟩
  · obtain ⟨c1, c2⟩ := b k T hk
    exact ⟨fun h9 => by have := c1 h9; omega, c2⟩
  · have h9 := List.all_eq_true.mp e3 k (List.mem_range.mpr hk)
    split at h9
    · rename_i q e9
      rw [e9, Nat.eq_of_beq_eq_true h9]
    · cases h9
theorem x_newlong {scr : Option (List zv)} {d mi pc : Nat} {ls : List (Option zv)} {h : zh} {t : Nat} {x : zo × zh × Nat} {len : Nat} {r : zr} {ty : ClassFile.ArrayType} {n : Int32} {st' : List zv} (hf : zfetch mi pc = some (.newarray ty, len, r)) (hr : r.1 = 2) (hn : n.toInt = 1) (hl : h.length < 900000) (k : qF scr d mi (pc + 2) ls (.inl (some h.length) :: st') (h ++ [outC]) t x) : qF scr d mi pc ls (zi n :: st') h t x := by
  refine qF_step hf (fun k q => by cases q) (z := some (.inr [outC])) ?_ k
  have hz : zsize (zi n) = some 1 := by
    show (bif decide (n < 0) then none else frc n.toNatClampNeg (fun i => bif Nat.ble i 1000 then some i else none)) = some 1
    have h1 : ¬ n < 0 := fun q => by
      rw [Int32.lt_iff_toInt_lt] at q
      have : (0 : Int32).toInt = 0 := by decide
      omega
    have h2 : n.toNatClampNeg = 1 := by
      show n.toInt.toNat = 1
      omega
    rw [decide_eq_false h1]
    simp only [cond_false, frc_eq, h2]
    rfl
  show (match zsize (zi n) with
    | some N => frc h.length (fun n => bif Nat.blt n 900000 then some (pc + 2, ls, (.inl (some n) : zv) :: st', (some (.inr [.inl (r.1, List.replicate N (zdef (bif Nat.beq r.1 2 then 3 else 0)))]) : zp)) else none)
    | none => none) = _
  rw [hz, hr]
  simp only [frc_eq, bltT.mpr hl, cond_true]
  rfl
theorem law_start {scr : List zv} {P : zo × zh × Nat → Prop} (k : ∀ (h : zh) (y : Int32), hG atau h → (∃ x : Int32, hsl h 0 1 = some (zi x) ∧ x.toInt = 0) → (∃ x : Int32, hsl h 52 2 = some (zi x) ∧ x.toInt = 0) → y.toInt = 0 → qL scr 60 289 23 [some (.inl (some 1000000)), some (.inl (some 0)), some (.inl (some 52)), some (.inl (some 388)), some (zi y), none, none] [] h 0 P) : qL scr 60 289 0 [some (.inl (some 1000000)), none, none, none, none, none, none] [] [] 0 P := by
  have hA := mkAll_ok
  unfold mkAll at hA
  cases h1 : mkA with
  | none => rw [h1] at hA; cases hA
  | some g1 =>
    rw [h1] at hA
    simp only at hA
    cases h2 : mkB g1 with
    | none => rw [h2] at hA; cases hA
    | some g2 =>
      rw [h2] at hA
      simp only at hA
      obtain ⟨hg, s1, s2⟩ := staB_ok hA
      have e1 : qE 60 131 [some (.inl (some 0))] [.inr (11, k11.map zdef)] 0 (.inl none, g1, 0) ∧ g1.length = 52 := by
        unfold mkA at h1
        split at h1
        · rename_i h9 e9
          cases hb : Nat.beq h9.length 52 with
          | false => rw [hb] at h1; cases h1
          | true =>
            rw [hb] at h1
            cases h1
            exact ⟨qE_le (by decide) (qE_ev e9), Nat.eq_of_beq_eq_true hb⟩
        · cases h1
      have e2 : qE 60 159 [some (.inl (some 52))] (g1 ++ [.inr (12, k12.map zdef)]) 0 (.inl none, g2, 0) ∧ g2.length = 388 := by
        unfold mkB at h2
        split at h2
        · rename_i h9 e9
          cases hb : Nat.beq h9.length 388 with
          | false => rw [hb] at h2; cases h2
          | true =>
            rw [hb] at h2
            cases h2
            exact ⟨qE_le (by decide) (qE_ev e9), Nat.eq_of_beq_eq_true hb⟩
        · cases h2
      obtain ⟨e1, l1⟩ := e1
      obtain ⟨e2, l2⟩ := e2
      obtain ⟨x, kx, hP⟩ := k (g2 ++ [outC]) (Int32.ofInt 0) hg s1 s2 (by decide)
      refine ⟨x, ?_, hP⟩
      refine x_new (j := 8) (ci := 11) (ks := k11) (len := 3) (r := (11, 137, 138, 111)) (by decide +kernel) rfl rfl (by decide) rfl ?_
      refine x_same (i := .dup) (len := 1) (r := (0, 0, 0, 0)) (pc' := 4) (by decide +kernel) (fun k q => by cases q) rfl ?_
      refine qF_call (i := .invokespecial 56) (len := 3) (r := (2, 131, 11, 139)) (nL := 1) (k := 0) (n := 1) (hs := []) (args := [.inl (some 0)]) (rest := [.inl (some 0)]) (l0 := [some (.inl (some 0))]) (by decide +kernel) (Or.inr (Or.inr ⟨_, rfl⟩)) rfl rfl rfl rfl (Nat.le_of_ble_eq_true rfl) rfl rfl e1 (qB_void ?_)
      refine x_same (i := .astore_n 1) (len := 1) (r := (0, 0, 0, 0)) (pc' := 8) (ls' := [some (.inl (some 1000000)), some (.inl (some 0)), none, none, none, none, none]) (st' := []) (by decide +kernel) (fun k q => by cases q) rfl ?_
      refine x_new (j := 57) (ci := 12) (ks := k12) (len := 3) (r := (12, 1320, 1321, 121)) (by decide +kernel) rfl rfl (by omega) rfl ?_
      rw [l1]
      refine x_same (i := .dup) (len := 1) (r := (0, 0, 0, 0)) (pc' := 12) (by decide +kernel) (fun k q => by cases q) rfl ?_
      refine qF_call (i := .invokespecial 59) (len := 3) (r := (2, 159, 12, 1322)) (nL := 1) (k := 0) (n := 1) (hs := []) (args := [.inl (some 52)]) (rest := [.inl (some 52)]) (l0 := [some (.inl (some 52))]) (by decide +kernel) (Or.inr (Or.inr ⟨_, rfl⟩)) rfl rfl rfl rfl (Nat.le_of_ble_eq_true rfl) rfl rfl e2 (qB_void ?_)
      refine x_same (i := .astore_n 2) (len := 1) (r := (0, 0, 0, 0)) (pc' := 16) (ls' := [some (.inl (some 1000000)), some (.inl (some 0)), some (.inl (some 52)), none, none, none, none]) (st' := []) (by decide +kernel) (fun k q => by cases q) rfl ?_
      refine x_iconst (n := 1) (len := 1) (r := (0, 0, 0, 0)) (by decide +kernel) ?_
      refine x_newlong (ty := .long) (len := 2) (r := (2, 1871, 0, 0)) (by decide +kernel) rfl (by decide) (by omega) ?_
      rw [l2]
      refine x_same (i := .astore_n 3) (len := 1) (r := (0, 0, 0, 0)) (pc' := 20) (ls' := [some (.inl (some 1000000)), some (.inl (some 0)), some (.inl (some 52)), some (.inl (some 388)), none, none, none]) (st' := []) (by decide +kernel) (fun k q => by cases q) rfl ?_
      refine x_iconst (n := 0) (len := 1) (r := (0, 0, 0, 0)) (by decide +kernel) ?_
      refine x_same (i := .istore 4) (len := 2) (r := (0, 0, 0, 0)) (pc' := 23) (ls' := [some (.inl (some 1000000)), some (.inl (some 0)), some (.inl (some 52)), some (.inl (some 388)), some (zi (Int32.ofInt 0)), none, none]) (st' := []) (by decide +kernel) (fun k q => by cases q) rfl ?_
      exact kx
