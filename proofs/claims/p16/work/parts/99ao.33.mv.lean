/-! a sequent of the reference: its variables, a claim more -/
def mn4 (p : it4) (v : Int) : Prop := p.2.1 = v ∨ p.2.2.1 = v ∨ p.2.2.2 = v
theorem mnt_of {l : List it4} {v : Int} : mnt l v ↔ ∃ (j : Nat) (p : it4), j < l.length ∧ l[j]? = some p ∧ mn4 p v := ⟨fun ⟨p, m, e⟩ => by
    obtain ⟨j, hj⟩ := List.getElem?_of_mem m
    exact ⟨j, p, (List.getElem?_eq_some_iff.mp hj).1, hj, e⟩, fun ⟨j, p, _, hj, e⟩ => ⟨p, List.mem_of_getElem? hj, e⟩⟩
theorem mn_step {l : List it4} {i : Nat} {ik : it4} {B B2 : Int → Prop} {v : Int} (hk : l[i]? = some ik) : ((∃ (j : Nat) (p : it4), j < i ∧ l[j]? = some p ∧ mn4 p v) ∨ mn4 ik v) ↔ ∃ (j : Nat) (p : it4), j < i + 1 ∧ l[j]? = some p ∧ mn4 p v := by
  constructor
  · rintro (⟨j, p, a1, a2, a3⟩ | e)
    · exact ⟨j, p, by omega, a2, a3⟩
    · exact ⟨i, ik, by omega, hk, e⟩
  · rintro ⟨j, p, a1, a2, a3⟩
    rcases Nat.lt_or_ge j i with q | q
    · exact Or.inl ⟨j, p, q, a2, a3⟩
    · obtain rfl : j = i := by omega
      cases hk.symm.trans a2
      exact Or.inr a3
def mn3 (p : it4) (v : Int) : Prop := p.2.1 = v ∨ p.2.2.1 = v
theorem mn_step3 {l : List it4} {i : Nat} {ik : it4} {v : Int} (hk : l[i]? = some ik) : ((∃ (j : Nat) (p : it4), j < i ∧ l[j]? = some p ∧ mn3 p v) ∨ mn3 ik v) ↔ ∃ (j : Nat) (p : it4), j < i + 1 ∧ l[j]? = some p ∧ mn3 p v := by
  constructor
  · rintro (⟨j, p, a1, a2, a3⟩ | e)
    · exact ⟨j, p, by omega, a2, a3⟩
    · exact ⟨i, ik, by omega, hk, e⟩
  · rintro ⟨j, p, a1, a2, a3⟩
    rcases Nat.lt_or_ge j i with q | q
    · exact Or.inl ⟨j, p, q, a2, a3⟩
    · obtain rfl : j = i := by omega
      cases hk.symm.trans a2
      exact Or.inr a3
/-- all variables but 0, and 0 where a part tells it -/
def mnJ (s : sqT) (v : Int) : Prop := (mnt s.1 v ∨ mnt s.2.1 v) ∨ ∃ (j : Nat) (p : it4), j < s.2.2.1.length ∧ s.2.2.1[j]? = some p ∧ mn3 p v
theorem mnJ_P {s : sqT} {v : Int} (ok : okQ s) (hv : v ≠ 0) : mnJ s v ↔ mnP s v := by
  unfold mnJ
  show _ ↔ mnt (s.1 ++ (s.2.1 ++ s.2.2.1)) v
  rw [mnt_app, mnt_app]
  constructor
  · rintro ((h | h) | ⟨j, p, -, hj, e⟩)
    · exact Or.inl h
    · exact Or.inr (Or.inl h)
    · exact Or.inr (Or.inr ⟨p, List.mem_of_getElem? hj, e.elim Or.inl (fun q => Or.inr (Or.inl q))⟩)
  · rintro (h | h | ⟨p, m, e⟩)
    · exact Or.inl (Or.inl h)
    · exact Or.inl (Or.inr h)
    · obtain ⟨j, hj⟩ := List.getElem?_of_mem m
      refine Or.inr ⟨j, p, (List.getElem?_eq_some_iff.mp hj).1, hj, ?_⟩
      rcases e with e | e | e
      · exact Or.inl e
      · exact Or.inr e
      · exact absurd (e.symm.trans (ok.2.2.1 p m).2.2) hv
theorem as_4 {a b c d : Prop} (h : ((a ∨ b) ∨ c) ∨ d) : a ∨ (b ∨ c ∨ d) := h.elim (fun q => q.elim (fun q => q.elim Or.inl (fun q => Or.inr (Or.inl q))) (fun q => Or.inr (Or.inr (Or.inl q)))) (fun q => Or.inr (Or.inr (Or.inr q)))
theorem bs_4 {a b c d : Prop} (h : a ∨ (b ∨ c ∨ d)) : ((a ∨ b) ∨ c) ∨ d := h.elim (fun q => Or.inl (Or.inl (Or.inl q))) (fun q => q.elim (fun q => Or.inl (Or.inl (Or.inr q))) (fun q => q.elim (fun q => Or.inl (Or.inr q)) Or.inr))
theorem or_as2x4 {x a b c d : Prop} (h : (((x ∨ a) ∨ b) ∨ c) ∨ d) : x ∨ (a ∨ (b ∨ c ∨ d)) := (as_4 h).elim (fun q => q.elim Or.inl (fun q => Or.inr (Or.inl q))) (fun q => Or.inr (Or.inr q))
theorem or_as1x4 {x a b c d : Prop} (h : x ∨ (a ∨ (b ∨ c ∨ d))) : (((x ∨ a) ∨ b) ∨ c) ∨ d := bs_4 (h.elim (fun q => Or.inl (Or.inl q)) (fun q => q.elim (fun q => Or.inl (Or.inr q)) Or.inr))
theorem or_as2x3 {x a b c : Prop} (h : ((x ∨ a) ∨ b) ∨ c) : x ∨ (a ∨ (b ∨ c)) := h.elim (fun q => q.elim (fun q => q.elim Or.inl (fun q => Or.inr (Or.inl q))) (fun q => Or.inr (Or.inr (Or.inl q)))) (fun q => Or.inr (Or.inr (Or.inr q)))
theorem or_as1x3 {x a b c : Prop} (h : x ∨ (a ∨ (b ∨ c))) : ((x ∨ a) ∨ b) ∨ c := h.elim (fun q => Or.inl (Or.inl (Or.inl q))) (fun q => q.elim (fun q => Or.inl (Or.inl (Or.inr q))) (fun q => q.elim (fun q => Or.inl (Or.inr q)) Or.inr))
theorem or_as1 {a b c : Prop} (h : (a ∨ b) ∨ c) : a ∨ (b ∨ c) := h.elim (fun q => q.elim Or.inl (fun q => Or.inr (Or.inl q))) (fun q => Or.inr (Or.inr q))
theorem or_as2 {a b c : Prop} (h : a ∨ (b ∨ c)) : (a ∨ b) ∨ c := h.elim (fun q => Or.inl (Or.inl q)) (fun q => q.elim (fun q => Or.inl (Or.inr q)) Or.inr)
theorem inp_L {d t A : Nat} {τ : List Nat} {h : zh} {s : sqT} (Q : QM τ h A s) {P : zo × zh × Nat → Prop} (kk : ∀ (xb xi : Int32) (l3 : Option zv), bs_ xb (fun v => mnt s.1 (v : Int)) → qX (d + 1) 217 43 [some (.inl (some A)), some (zi xb), some (zi xi), l3] [] h t P) : ∀ (n : Nat) (i : Nat) (xb : Int32) (xi : Int32) (l3 : Option zv), (bs_ xb (fun v => (∃ (j : Nat) (p : it4), j < i ∧ s.1[j]? = some p ∧ mn4 p (v : Int)))) → (xi.toInt = (i : Int)) → (i ≤ s.1.length) → (s.1.length < i + n) → qX (d + 1) 217 4 [some (.inl (some A)), some (zi xb), some (zi xi), l3] [] h t P := by
  intro n
  induction n with
  | zero =>
    intro i xb xi l3 hb hxi hi hn
    exfalso
    omega
  | succ n ih =>
    intro i xb xi l3 hb hxi hi hn
    obtain ⟨T, c0, tA, aT, hc0, pT⟩ := Q.2.1
    refine y_same (i := .iload_n 2) (len := 1) (r := (0, 0, 0, 0)) (pc' := 5) (ls' := [some (.inl (some A)), some (zi xb), some (zi xi), l3]) (st' := [zi xi]) (by decide +kernel) (fun k q => by cases q) rfl ?_
    refine y_same (i := .aload_n 0) (len := 1) (r := (0, 0, 0, 0)) (pc' := 6) (ls' := [some (.inl (some A)), some (zi xb), some (zi xi), l3]) (st' := [.inl (some A), zi xi]) (by decide +kernel) (fun k q => by cases q) rfl ?_
    refine y_ic (c := 0) (len := 1) (r := (0, 0, 0, 0)) (by decide +kernel) (by decide) (fun y2325 hy2325 => ?_)
    obtain ⟨z2326, hz2326, ez2326⟩ := Q.2.2.1.1
    have ez2326 : z2326.toInt = ((s.1.length : Nat) : Int) := ez2326
    have mz2326 := qm_lenL Q
    have mz2326 : s.1.length ≤ 14 := mz2326
    refine y_ial (i := 0) (len := 1) (r := (0, 0, 0, 0)) (by decide +kernel) Q.1 tA aT (by omega) hz2326 ?_
    rcases Decidable.em (xi.toInt ≥ z2326.toInt) with q2327 | q2327
    ·
      refine y_cT (c := .ge) (off := 35) (pc' := 43) (len := 3) (r := (0, 0, 0, 0)) (by decide +kernel) (acmpT (c := .ge) (by show _ ≤ _; omega)) (by decide +kernel) ?_
      refine kk _ _ _ (bs_cg hb (fun v hv => ?_))
      show (∃ (j : Nat) (p : it4), j < i ∧ s.1[j]? = some p ∧ mn4 p (v : Int)) ↔ _
      obtain rfl : i = s.1.length := by omega
      exact mnt_of.symm
    ·
      refine y_cF (c := .ge) (off := 35) (len := 3) (r := (0, 0, 0, 0)) (by decide +kernel) (acmpF (c := .ge) (by show _ < _; omega)) ?_
      refine y_ic (c := 1) (len := 1) (r := (0, 0, 0, 0)) (by decide +kernel) (by decide) (fun y2328 hy2328 => ?_)
      refine y_same (i := .istore_n 3) (len := 1) (r := (0, 0, 0, 0)) (pc' := 13) (ls' := [some (.inl (some A)), some (zi xb), some (zi xi), some (zi y2328)]) (st' := []) (by decide +kernel) (fun k q => by cases q) rfl ?_
      refine y_same (i := .iload_n 3) (len := 1) (r := (0, 0, 0, 0)) (pc' := 14) (ls' := [some (.inl (some A)), some (zi xb), some (zi xi), some (zi y2328)]) (st' := [zi y2328]) (by decide +kernel) (fun k q => by cases q) rfl ?_
      refine y_ic (c := 4) (len := 1) (r := (0, 0, 0, 0)) (by decide +kernel) (by decide) (fun y2329 hy2329 => ?_)
      refine y_cF (c := .ge) (off := 22) (len := 3) (r := (0, 0, 0, 0)) (by decide +kernel) (acmpF (c := .ge) (by show _ < _; omega)) ?_
      refine y_same (i := .iload_n 1) (len := 1) (r := (0, 0, 0, 0)) (pc' := 19) (ls' := [some (.inl (some A)), some (zi xb), some (zi xi), some (zi y2328)]) (st' := [zi xb]) (by decide +kernel) (fun k q => by cases q) rfl ?_
      refine y_ic (c := 1) (len := 1) (r := (0, 0, 0, 0)) (by decide +kernel) (by decide) (fun y2330 hy2330 => ?_)
      refine y_same (i := .aload_n 0) (len := 1) (r := (0, 0, 0, 0)) (pc' := 21) (ls' := [some (.inl (some A)), some (zi xb), some (zi xi), some (zi y2328)]) (st' := [.inl (some A), zi y2330, zi xb]) (by decide +kernel) (fun k q => by cases q) rfl ?_
      refine y_same (i := .iload_n 2) (len := 1) (r := (0, 0, 0, 0)) (pc' := 22) (ls' := [some (.inl (some A)), some (zi xb), some (zi xi), some (zi y2328)]) (st' := [zi xi, .inl (some A), zi y2330, zi xb]) (by decide +kernel) (fun k q => by cases q) rfl ?_
      refine y_cI (i := .invokestatic 249) (len := 3) (r := (1, 197, 12, 1644)) (nL := 1) (k := 1) (n := 1) (hs := []) (args := [zi xi]) (rest := [.inl (some A), zi y2330, zi xb]) (l0 := [some (zi xi)]) (by decide +kernel) (Or.inl ⟨_, rfl⟩) rfl rfl rfl rfl (Nat.le_of_ble_eq_true rfl) rfl rfl (qI_le (by omega) (e_leftAt (d := 0) (by omega) (by omega))) (fun y2331 qy2331 hRy2331 => ?_)
      obtain ⟨rfl, hy2331⟩ := hRy2331
      refine y_same (i := .iload_n 3) (len := 1) (r := (0, 0, 0, 0)) (pc' := 26) (ls' := [some (.inl (some A)), some (zi xb), some (zi xi), some (zi y2328)]) (st' := [zi y2328, zi y2331, .inl (some A), zi y2330, zi xb]) (by decide +kernel) (fun k q => by cases q) rfl ?_
      refine y_add (len := 1) (r := (0, 0, 0, 0)) (by decide +kernel) (by omega) (by omega) (fun y2332 hy2332 => ?_)
      obtain ⟨i2333, ki2333⟩ : ∃ i9, s.1[i]? = some i9 := ⟨_, List.getElem?_eq_getElem (by omega)⟩
      have oi2333 := okQ_L Q.2.2.2 ki2333
      have pi2333 := oi2333.1
      unfold okV at pi2333
      obtain ⟨ai2333, bi2333, ci2333, di2333, ⟨hai2333, hbi2333, hci2333, hdi2333⟩, eai2333, ebi2333, eci2333, edi2333⟩ := qm_itL Q ki2333
      refine y_ial (i := ((24 + 4 * i) + 1)) (len := 1) (r := (0, 0, 0, 0)) (by decide +kernel) Q.1 tA aT (by omega) hbi2333 ?_
      refine y_bp (i := .ishl) (f := fun x y => x <<< (y &&& 31)) (len := 1) (r := (0, 0, 0, 0)) (by decide +kernel) rfl rfl (fun y2334 hy2334 => ?_)
      have hy2334 : y2334 = y2330 <<< (bi2333 &&& 31) := hy2334
      refine y_bp (i := .ior) (f := fun x y => x ||| y) (len := 1) (r := (0, 0, 0, 0)) (by decide +kernel) rfl rfl (fun y2335 hy2335 => ?_)
      have hy2335 : y2335 = xb ||| y2334 := hy2335
      refine y_same (i := .istore_n 1) (len := 1) (r := (0, 0, 0, 0)) (pc' := 31) (ls' := [some (.inl (some A)), some (zi y2335), some (zi xi), some (zi y2328)]) (st' := []) (by decide +kernel) (fun k q => by cases q) rfl ?_
      refine y_inc (j := 3) (a := y2328) (c := 1) (ls' := fun v => [some (.inl (some A)), some (zi y2335), some (zi xi), some v]) (len := 3) (r := (0, 0, 0, 0)) (by decide +kernel) rfl (fun _ => rfl) (by decide) (by omega) (by omega) (fun y2336 hy2336 => ?_)
      show qX (d + 1) 217 34 [some (.inl (some A)), some (zi y2335), some (zi xi), some (zi y2336)] [] h t _
      refine y_goto (off := (-21)) (pc' := 13) (len := 3) (r := (0, 0, 0, 0)) (by decide +kernel) (by decide +kernel) ?_
      refine y_same (i := .iload_n 3) (len := 1) (r := (0, 0, 0, 0)) (pc' := 14) (ls' := [some (.inl (some A)), some (zi y2335), some (zi xi), some (zi y2336)]) (st' := [zi y2336]) (by decide +kernel) (fun k q => by cases q) rfl ?_
      refine y_ic (c := 4) (len := 1) (r := (0, 0, 0, 0)) (by decide +kernel) (by decide) (fun y2337 hy2337 => ?_)
      refine y_cF (c := .ge) (off := 22) (len := 3) (r := (0, 0, 0, 0)) (by decide +kernel) (acmpF (c := .ge) (by show _ < _; omega)) ?_
      refine y_same (i := .iload_n 1) (len := 1) (r := (0, 0, 0, 0)) (pc' := 19) (ls' := [some (.inl (some A)), some (zi y2335), some (zi xi), some (zi y2336)]) (st' := [zi y2335]) (by decide +kernel) (fun k q => by cases q) rfl ?_
      refine y_ic (c := 1) (len := 1) (r := (0, 0, 0, 0)) (by decide +kernel) (by decide) (fun y2338 hy2338 => ?_)
      refine y_same (i := .aload_n 0) (len := 1) (r := (0, 0, 0, 0)) (pc' := 21) (ls' := [some (.inl (some A)), some (zi y2335), some (zi xi), some (zi y2336)]) (st' := [.inl (some A), zi y2338, zi y2335]) (by decide +kernel) (fun k q => by cases q) rfl ?_
      refine y_same (i := .iload_n 2) (len := 1) (r := (0, 0, 0, 0)) (pc' := 22) (ls' := [some (.inl (some A)), some (zi y2335), some (zi xi), some (zi y2336)]) (st' := [zi xi, .inl (some A), zi y2338, zi y2335]) (by decide +kernel) (fun k q => by cases q) rfl ?_
      refine y_cI (i := .invokestatic 249) (len := 3) (r := (1, 197, 12, 1644)) (nL := 1) (k := 1) (n := 1) (hs := []) (args := [zi xi]) (rest := [.inl (some A), zi y2338, zi y2335]) (l0 := [some (zi xi)]) (by decide +kernel) (Or.inl ⟨_, rfl⟩) rfl rfl rfl rfl (Nat.le_of_ble_eq_true rfl) rfl rfl (qI_le (by omega) (e_leftAt (d := 0) (by omega) (by omega))) (fun y2339 qy2339 hRy2339 => ?_)
      obtain ⟨rfl, hy2339⟩ := hRy2339
      refine y_same (i := .iload_n 3) (len := 1) (r := (0, 0, 0, 0)) (pc' := 26) (ls' := [some (.inl (some A)), some (zi y2335), some (zi xi), some (zi y2336)]) (st' := [zi y2336, zi y2339, .inl (some A), zi y2338, zi y2335]) (by decide +kernel) (fun k q => by cases q) rfl ?_
      refine y_add (len := 1) (r := (0, 0, 0, 0)) (by decide +kernel) (by omega) (by omega) (fun y2340 hy2340 => ?_)
      refine y_ial (i := ((24 + 4 * i) + 2)) (len := 1) (r := (0, 0, 0, 0)) (by decide +kernel) Q.1 tA aT (by omega) hci2333 ?_
      refine y_bp (i := .ishl) (f := fun x y => x <<< (y &&& 31)) (len := 1) (r := (0, 0, 0, 0)) (by decide +kernel) rfl rfl (fun y2341 hy2341 => ?_)
      have hy2341 : y2341 = y2338 <<< (ci2333 &&& 31) := hy2341
      refine y_bp (i := .ior) (f := fun x y => x ||| y) (len := 1) (r := (0, 0, 0, 0)) (by decide +kernel) rfl rfl (fun y2342 hy2342 => ?_)
      have hy2342 : y2342 = y2335 ||| y2341 := hy2342
      refine y_same (i := .istore_n 1) (len := 1) (r := (0, 0, 0, 0)) (pc' := 31) (ls' := [some (.inl (some A)), some (zi y2342), some (zi xi), some (zi y2336)]) (st' := []) (by decide +kernel) (fun k q => by cases q) rfl ?_
      refine y_inc (j := 3) (a := y2336) (c := 1) (ls' := fun v => [some (.inl (some A)), some (zi y2342), some (zi xi), some v]) (len := 3) (r := (0, 0, 0, 0)) (by decide +kernel) rfl (fun _ => rfl) (by decide) (by omega) (by omega) (fun y2343 hy2343 => ?_)
      show qX (d + 1) 217 34 [some (.inl (some A)), some (zi y2342), some (zi xi), some (zi y2343)] [] h t _
      refine y_goto (off := (-21)) (pc' := 13) (len := 3) (r := (0, 0, 0, 0)) (by decide +kernel) (by decide +kernel) ?_
      refine y_same (i := .iload_n 3) (len := 1) (r := (0, 0, 0, 0)) (pc' := 14) (ls' := [some (.inl (some A)), some (zi y2342), some (zi xi), some (zi y2343)]) (st' := [zi y2343]) (by decide +kernel) (fun k q => by cases q) rfl ?_
      refine y_ic (c := 4) (len := 1) (r := (0, 0, 0, 0)) (by decide +kernel) (by decide) (fun y2344 hy2344 => ?_)
      refine y_cF (c := .ge) (off := 22) (len := 3) (r := (0, 0, 0, 0)) (by decide +kernel) (acmpF (c := .ge) (by show _ < _; omega)) ?_
      refine y_same (i := .iload_n 1) (len := 1) (r := (0, 0, 0, 0)) (pc' := 19) (ls' := [some (.inl (some A)), some (zi y2342), some (zi xi), some (zi y2343)]) (st' := [zi y2342]) (by decide +kernel) (fun k q => by cases q) rfl ?_
      refine y_ic (c := 1) (len := 1) (r := (0, 0, 0, 0)) (by decide +kernel) (by decide) (fun y2345 hy2345 => ?_)
      refine y_same (i := .aload_n 0) (len := 1) (r := (0, 0, 0, 0)) (pc' := 21) (ls' := [some (.inl (some A)), some (zi y2342), some (zi xi), some (zi y2343)]) (st' := [.inl (some A), zi y2345, zi y2342]) (by decide +kernel) (fun k q => by cases q) rfl ?_
      refine y_same (i := .iload_n 2) (len := 1) (r := (0, 0, 0, 0)) (pc' := 22) (ls' := [some (.inl (some A)), some (zi y2342), some (zi xi), some (zi y2343)]) (st' := [zi xi, .inl (some A), zi y2345, zi y2342]) (by decide +kernel) (fun k q => by cases q) rfl ?_
      refine y_cI (i := .invokestatic 249) (len := 3) (r := (1, 197, 12, 1644)) (nL := 1) (k := 1) (n := 1) (hs := []) (args := [zi xi]) (rest := [.inl (some A), zi y2345, zi y2342]) (l0 := [some (zi xi)]) (by decide +kernel) (Or.inl ⟨_, rfl⟩) rfl rfl rfl rfl (Nat.le_of_ble_eq_true rfl) rfl rfl (qI_le (by omega) (e_leftAt (d := 0) (by omega) (by omega))) (fun y2346 qy2346 hRy2346 => ?_)
      obtain ⟨rfl, hy2346⟩ := hRy2346
      refine y_same (i := .iload_n 3) (len := 1) (r := (0, 0, 0, 0)) (pc' := 26) (ls' := [some (.inl (some A)), some (zi y2342), some (zi xi), some (zi y2343)]) (st' := [zi y2343, zi y2346, .inl (some A), zi y2345, zi y2342]) (by decide +kernel) (fun k q => by cases q) rfl ?_
      refine y_add (len := 1) (r := (0, 0, 0, 0)) (by decide +kernel) (by omega) (by omega) (fun y2347 hy2347 => ?_)
      refine y_ial (i := ((24 + 4 * i) + 3)) (len := 1) (r := (0, 0, 0, 0)) (by decide +kernel) Q.1 tA aT (by omega) hdi2333 ?_
      refine y_bp (i := .ishl) (f := fun x y => x <<< (y &&& 31)) (len := 1) (r := (0, 0, 0, 0)) (by decide +kernel) rfl rfl (fun y2348 hy2348 => ?_)
      have hy2348 : y2348 = y2345 <<< (di2333 &&& 31) := hy2348
      refine y_bp (i := .ior) (f := fun x y => x ||| y) (len := 1) (r := (0, 0, 0, 0)) (by decide +kernel) rfl rfl (fun y2349 hy2349 => ?_)
      have hy2349 : y2349 = y2342 ||| y2348 := hy2349
      refine y_same (i := .istore_n 1) (len := 1) (r := (0, 0, 0, 0)) (pc' := 31) (ls' := [some (.inl (some A)), some (zi y2349), some (zi xi), some (zi y2343)]) (st' := []) (by decide +kernel) (fun k q => by cases q) rfl ?_
      refine y_inc (j := 3) (a := y2343) (c := 1) (ls' := fun v => [some (.inl (some A)), some (zi y2349), some (zi xi), some v]) (len := 3) (r := (0, 0, 0, 0)) (by decide +kernel) rfl (fun _ => rfl) (by decide) (by omega) (by omega) (fun y2350 hy2350 => ?_)
      show qX (d + 1) 217 34 [some (.inl (some A)), some (zi y2349), some (zi xi), some (zi y2350)] [] h t _
      refine y_goto (off := (-21)) (pc' := 13) (len := 3) (r := (0, 0, 0, 0)) (by decide +kernel) (by decide +kernel) ?_
      refine y_same (i := .iload_n 3) (len := 1) (r := (0, 0, 0, 0)) (pc' := 14) (ls' := [some (.inl (some A)), some (zi y2349), some (zi xi), some (zi y2350)]) (st' := [zi y2350]) (by decide +kernel) (fun k q => by cases q) rfl ?_
      refine y_ic (c := 4) (len := 1) (r := (0, 0, 0, 0)) (by decide +kernel) (by decide) (fun y2351 hy2351 => ?_)
      refine y_cT (c := .ge) (off := 22) (pc' := 37) (len := 3) (r := (0, 0, 0, 0)) (by decide +kernel) (acmpT (c := .ge) (by show _ ≤ _; omega)) (by decide +kernel) ?_
      refine y_inc (j := 2) (a := xi) (c := 1) (ls' := fun v => [some (.inl (some A)), some (zi y2349), some v, some (zi y2350)]) (len := 3) (r := (0, 0, 0, 0)) (by decide +kernel) rfl (fun _ => rfl) (by decide) (by omega) (by omega) (fun y2352 hy2352 => ?_)
      show qX (d + 1) 217 40 [some (.inl (some A)), some (zi y2349), some (zi y2352), some (zi y2350)] [] h t _
      refine y_goto (off := (-36)) (pc' := 4) (len := 3) (r := (0, 0, 0, 0)) (by decide +kernel) (by decide +kernel) ?_
      have b0 := bs_1 (c := y2330) (y := bi2333) (k := i2333.2.1) hy2330 ebi2333 (by omega) (by omega)
      rw [← hy2334] at b0
      have c0 := bs_or hb b0
      rw [← hy2335] at c0
      have b1 := bs_1 (c := y2338) (y := ci2333) (k := i2333.2.2.1) hy2338 eci2333 (by omega) (by omega)
      rw [← hy2341] at b1
      have c1 := bs_or c0 b1
      rw [← hy2342] at c1
      have b2 := bs_1 (c := y2345) (y := di2333) (k := i2333.2.2.2) hy2345 edi2333 (by omega) (by omega)
      rw [← hy2348] at b2
      have c2 := bs_or c1 b2
      rw [← hy2349] at c2
      refine ih (i + 1) y2349 y2352 (some (zi y2350)) (bs_cg c2 (fun v hv => ?_)) (by omega) (by omega) (by omega)
      show _ ↔ (∃ (j : Nat) (p : it4), j < (i + 1) ∧ s.1[j]? = some p ∧ mn4 p (v : Int))
      rw [← mn_step (B := fun _ => True) (B2 := fun _ => True) ki2333]
      exact ⟨fun q => as_4 q, fun q => bs_4 q⟩
theorem inp_R {d t A : Nat} {τ : List Nat} {h : zh} {s : sqT} (Q : QM τ h A s) {P : zo × zh × Nat → Prop} (kk : ∀ (xb xi : Int32) (l3 : Option zv), bs_ xb (fun v => mnt s.1 (v : Int) ∨ mnt s.2.1 (v : Int)) → qX (d + 1) 217 84 [some (.inl (some A)), some (zi xb), some (zi xi), l3] [] h t P) : ∀ (n : Nat) (i : Nat) (xb : Int32) (xi : Int32) (l3 : Option zv), (bs_ xb (fun v => (mnt s.1 (v : Int) ∨ (∃ (j : Nat) (p : it4), j < i ∧ s.2.1[j]? = some p ∧ mn4 p (v : Int))))) → (xi.toInt = (i : Int)) → (i ≤ s.2.1.length) → (s.2.1.length < i + n) → qX (d + 1) 217 45 [some (.inl (some A)), some (zi xb), some (zi xi), l3] [] h t P := by
  intro n
  induction n with
  | zero =>
    intro i xb xi l3 hb hxi hi hn
    exfalso
    omega
  | succ n ih =>
    intro i xb xi l3 hb hxi hi hn
    obtain ⟨T, c0, tA, aT, hc0, pT⟩ := Q.2.1
    refine y_same (i := .iload_n 2) (len := 1) (r := (0, 0, 0, 0)) (pc' := 46) (ls' := [some (.inl (some A)), some (zi xb), some (zi xi), l3]) (st' := [zi xi]) (by decide +kernel) (fun k q => by cases q) rfl ?_
    refine y_same (i := .aload_n 0) (len := 1) (r := (0, 0, 0, 0)) (pc' := 47) (ls' := [some (.inl (some A)), some (zi xb), some (zi xi), l3]) (st' := [.inl (some A), zi xi]) (by decide +kernel) (fun k q => by cases q) rfl ?_
    refine y_ic (c := 1) (len := 1) (r := (0, 0, 0, 0)) (by decide +kernel) (by decide) (fun y2353 hy2353 => ?_)
    obtain ⟨z2354, hz2354, ez2354⟩ := Q.2.2.1.2.1
    have ez2354 : z2354.toInt = ((s.2.1.length : Nat) : Int) := ez2354
    have mz2354 := qm_lenR Q
    have mz2354 : s.2.1.length ≤ 14 := mz2354
    refine y_ial (i := 1) (len := 1) (r := (0, 0, 0, 0)) (by decide +kernel) Q.1 tA aT (by omega) hz2354 ?_
    rcases Decidable.em (xi.toInt ≥ z2354.toInt) with q2355 | q2355
    ·
      refine y_cT (c := .ge) (off := 35) (pc' := 84) (len := 3) (r := (0, 0, 0, 0)) (by decide +kernel) (acmpT (c := .ge) (by show _ ≤ _; omega)) (by decide +kernel) ?_
      refine kk _ _ _ (bs_cg hb (fun v hv => ?_))
      show (mnt s.1 (v : Int) ∨ (∃ (j : Nat) (p : it4), j < i ∧ s.2.1[j]? = some p ∧ mn4 p (v : Int))) ↔ _
      obtain rfl : i = s.2.1.length := by omega
      exact ⟨fun q => q.elim Or.inl (fun q => Or.inr (mnt_of.mpr q)), fun q => q.elim Or.inl (fun q => Or.inr (mnt_of.mp q))⟩
    ·
      refine y_cF (c := .ge) (off := 35) (len := 3) (r := (0, 0, 0, 0)) (by decide +kernel) (acmpF (c := .ge) (by show _ < _; omega)) ?_
      refine y_ic (c := 1) (len := 1) (r := (0, 0, 0, 0)) (by decide +kernel) (by decide) (fun y2356 hy2356 => ?_)
      refine y_same (i := .istore_n 3) (len := 1) (r := (0, 0, 0, 0)) (pc' := 54) (ls' := [some (.inl (some A)), some (zi xb), some (zi xi), some (zi y2356)]) (st' := []) (by decide +kernel) (fun k q => by cases q) rfl ?_
      refine y_same (i := .iload_n 3) (len := 1) (r := (0, 0, 0, 0)) (pc' := 55) (ls' := [some (.inl (some A)), some (zi xb), some (zi xi), some (zi y2356)]) (st' := [zi y2356]) (by decide +kernel) (fun k q => by cases q) rfl ?_
      refine y_ic (c := 4) (len := 1) (r := (0, 0, 0, 0)) (by decide +kernel) (by decide) (fun y2357 hy2357 => ?_)
      refine y_cF (c := .ge) (off := 22) (len := 3) (r := (0, 0, 0, 0)) (by decide +kernel) (acmpF (c := .ge) (by show _ < _; omega)) ?_
      refine y_same (i := .iload_n 1) (len := 1) (r := (0, 0, 0, 0)) (pc' := 60) (ls' := [some (.inl (some A)), some (zi xb), some (zi xi), some (zi y2356)]) (st' := [zi xb]) (by decide +kernel) (fun k q => by cases q) rfl ?_
      refine y_ic (c := 1) (len := 1) (r := (0, 0, 0, 0)) (by decide +kernel) (by decide) (fun y2358 hy2358 => ?_)
      refine y_same (i := .aload_n 0) (len := 1) (r := (0, 0, 0, 0)) (pc' := 62) (ls' := [some (.inl (some A)), some (zi xb), some (zi xi), some (zi y2356)]) (st' := [.inl (some A), zi y2358, zi xb]) (by decide +kernel) (fun k q => by cases q) rfl ?_
      refine y_same (i := .iload_n 2) (len := 1) (r := (0, 0, 0, 0)) (pc' := 63) (ls' := [some (.inl (some A)), some (zi xb), some (zi xi), some (zi y2356)]) (st' := [zi xi, .inl (some A), zi y2358, zi xb]) (by decide +kernel) (fun k q => by cases q) rfl ?_
      refine y_cI (i := .invokestatic 256) (len := 3) (r := (1, 198, 12, 1651)) (nL := 1) (k := 1) (n := 1) (hs := []) (args := [zi xi]) (rest := [.inl (some A), zi y2358, zi xb]) (l0 := [some (zi xi)]) (by decide +kernel) (Or.inl ⟨_, rfl⟩) rfl rfl rfl rfl (Nat.le_of_ble_eq_true rfl) rfl rfl (qI_le (by omega) (e_rightAt (d := 0) (by omega) (by omega))) (fun y2359 qy2359 hRy2359 => ?_)
      obtain ⟨rfl, hy2359⟩ := hRy2359
      refine y_same (i := .iload_n 3) (len := 1) (r := (0, 0, 0, 0)) (pc' := 67) (ls' := [some (.inl (some A)), some (zi xb), some (zi xi), some (zi y2356)]) (st' := [zi y2356, zi y2359, .inl (some A), zi y2358, zi xb]) (by decide +kernel) (fun k q => by cases q) rfl ?_
      refine y_add (len := 1) (r := (0, 0, 0, 0)) (by decide +kernel) (by omega) (by omega) (fun y2360 hy2360 => ?_)
      obtain ⟨i2361, ki2361⟩ : ∃ i9, s.2.1[i]? = some i9 := ⟨_, List.getElem?_eq_getElem (by omega)⟩
      have oi2361 := okQ_R Q.2.2.2 ki2361
      have pi2361 := oi2361.1
      unfold okV at pi2361
      obtain ⟨ai2361, bi2361, ci2361, di2361, ⟨hai2361, hbi2361, hci2361, hdi2361⟩, eai2361, ebi2361, eci2361, edi2361⟩ := qm_itR Q ki2361
      refine y_ial (i := ((80 + 4 * i) + 1)) (len := 1) (r := (0, 0, 0, 0)) (by decide +kernel) Q.1 tA aT (by omega) hbi2361 ?_
      refine y_bp (i := .ishl) (f := fun x y => x <<< (y &&& 31)) (len := 1) (r := (0, 0, 0, 0)) (by decide +kernel) rfl rfl (fun y2362 hy2362 => ?_)
      have hy2362 : y2362 = y2358 <<< (bi2361 &&& 31) := hy2362
      refine y_bp (i := .ior) (f := fun x y => x ||| y) (len := 1) (r := (0, 0, 0, 0)) (by decide +kernel) rfl rfl (fun y2363 hy2363 => ?_)
      have hy2363 : y2363 = xb ||| y2362 := hy2363
      refine y_same (i := .istore_n 1) (len := 1) (r := (0, 0, 0, 0)) (pc' := 72) (ls' := [some (.inl (some A)), some (zi y2363), some (zi xi), some (zi y2356)]) (st' := []) (by decide +kernel) (fun k q => by cases q) rfl ?_
      refine y_inc (j := 3) (a := y2356) (c := 1) (ls' := fun v => [some (.inl (some A)), some (zi y2363), some (zi xi), some v]) (len := 3) (r := (0, 0, 0, 0)) (by decide +kernel) rfl (fun _ => rfl) (by decide) (by omega) (by omega) (fun y2364 hy2364 => ?_)
      show qX (d + 1) 217 75 [some (.inl (some A)), some (zi y2363), some (zi xi), some (zi y2364)] [] h t _
      refine y_goto (off := (-21)) (pc' := 54) (len := 3) (r := (0, 0, 0, 0)) (by decide +kernel) (by decide +kernel) ?_
      refine y_same (i := .iload_n 3) (len := 1) (r := (0, 0, 0, 0)) (pc' := 55) (ls' := [some (.inl (some A)), some (zi y2363), some (zi xi), some (zi y2364)]) (st' := [zi y2364]) (by decide +kernel) (fun k q => by cases q) rfl ?_
      refine y_ic (c := 4) (len := 1) (r := (0, 0, 0, 0)) (by decide +kernel) (by decide) (fun y2365 hy2365 => ?_)
      refine y_cF (c := .ge) (off := 22) (len := 3) (r := (0, 0, 0, 0)) (by decide +kernel) (acmpF (c := .ge) (by show _ < _; omega)) ?_
      refine y_same (i := .iload_n 1) (len := 1) (r := (0, 0, 0, 0)) (pc' := 60) (ls' := [some (.inl (some A)), some (zi y2363), some (zi xi), some (zi y2364)]) (st' := [zi y2363]) (by decide +kernel) (fun k q => by cases q) rfl ?_
      refine y_ic (c := 1) (len := 1) (r := (0, 0, 0, 0)) (by decide +kernel) (by decide) (fun y2366 hy2366 => ?_)
      refine y_same (i := .aload_n 0) (len := 1) (r := (0, 0, 0, 0)) (pc' := 62) (ls' := [some (.inl (some A)), some (zi y2363), some (zi xi), some (zi y2364)]) (st' := [.inl (some A), zi y2366, zi y2363]) (by decide +kernel) (fun k q => by cases q) rfl ?_
      refine y_same (i := .iload_n 2) (len := 1) (r := (0, 0, 0, 0)) (pc' := 63) (ls' := [some (.inl (some A)), some (zi y2363), some (zi xi), some (zi y2364)]) (st' := [zi xi, .inl (some A), zi y2366, zi y2363]) (by decide +kernel) (fun k q => by cases q) rfl ?_
      refine y_cI (i := .invokestatic 256) (len := 3) (r := (1, 198, 12, 1651)) (nL := 1) (k := 1) (n := 1) (hs := []) (args := [zi xi]) (rest := [.inl (some A), zi y2366, zi y2363]) (l0 := [some (zi xi)]) (by decide +kernel) (Or.inl ⟨_, rfl⟩) rfl rfl rfl rfl (Nat.le_of_ble_eq_true rfl) rfl rfl (qI_le (by omega) (e_rightAt (d := 0) (by omega) (by omega))) (fun y2367 qy2367 hRy2367 => ?_)
      obtain ⟨rfl, hy2367⟩ := hRy2367
      refine y_same (i := .iload_n 3) (len := 1) (r := (0, 0, 0, 0)) (pc' := 67) (ls' := [some (.inl (some A)), some (zi y2363), some (zi xi), some (zi y2364)]) (st' := [zi y2364, zi y2367, .inl (some A), zi y2366, zi y2363]) (by decide +kernel) (fun k q => by cases q) rfl ?_
      refine y_add (len := 1) (r := (0, 0, 0, 0)) (by decide +kernel) (by omega) (by omega) (fun y2368 hy2368 => ?_)
      refine y_ial (i := ((80 + 4 * i) + 2)) (len := 1) (r := (0, 0, 0, 0)) (by decide +kernel) Q.1 tA aT (by omega) hci2361 ?_
      refine y_bp (i := .ishl) (f := fun x y => x <<< (y &&& 31)) (len := 1) (r := (0, 0, 0, 0)) (by decide +kernel) rfl rfl (fun y2369 hy2369 => ?_)
      have hy2369 : y2369 = y2366 <<< (ci2361 &&& 31) := hy2369
      refine y_bp (i := .ior) (f := fun x y => x ||| y) (len := 1) (r := (0, 0, 0, 0)) (by decide +kernel) rfl rfl (fun y2370 hy2370 => ?_)
      have hy2370 : y2370 = y2363 ||| y2369 := hy2370
      refine y_same (i := .istore_n 1) (len := 1) (r := (0, 0, 0, 0)) (pc' := 72) (ls' := [some (.inl (some A)), some (zi y2370), some (zi xi), some (zi y2364)]) (st' := []) (by decide +kernel) (fun k q => by cases q) rfl ?_
      refine y_inc (j := 3) (a := y2364) (c := 1) (ls' := fun v => [some (.inl (some A)), some (zi y2370), some (zi xi), some v]) (len := 3) (r := (0, 0, 0, 0)) (by decide +kernel) rfl (fun _ => rfl) (by decide) (by omega) (by omega) (fun y2371 hy2371 => ?_)
      show qX (d + 1) 217 75 [some (.inl (some A)), some (zi y2370), some (zi xi), some (zi y2371)] [] h t _
      refine y_goto (off := (-21)) (pc' := 54) (len := 3) (r := (0, 0, 0, 0)) (by decide +kernel) (by decide +kernel) ?_
      refine y_same (i := .iload_n 3) (len := 1) (r := (0, 0, 0, 0)) (pc' := 55) (ls' := [some (.inl (some A)), some (zi y2370), some (zi xi), some (zi y2371)]) (st' := [zi y2371]) (by decide +kernel) (fun k q => by cases q) rfl ?_
      refine y_ic (c := 4) (len := 1) (r := (0, 0, 0, 0)) (by decide +kernel) (by decide) (fun y2372 hy2372 => ?_)
      refine y_cF (c := .ge) (off := 22) (len := 3) (r := (0, 0, 0, 0)) (by decide +kernel) (acmpF (c := .ge) (by show _ < _; omega)) ?_
      refine y_same (i := .iload_n 1) (len := 1) (r := (0, 0, 0, 0)) (pc' := 60) (ls' := [some (.inl (some A)), some (zi y2370), some (zi xi), some (zi y2371)]) (st' := [zi y2370]) (by decide +kernel) (fun k q => by cases q) rfl ?_
      refine y_ic (c := 1) (len := 1) (r := (0, 0, 0, 0)) (by decide +kernel) (by decide) (fun y2373 hy2373 => ?_)
      refine y_same (i := .aload_n 0) (len := 1) (r := (0, 0, 0, 0)) (pc' := 62) (ls' := [some (.inl (some A)), some (zi y2370), some (zi xi), some (zi y2371)]) (st' := [.inl (some A), zi y2373, zi y2370]) (by decide +kernel) (fun k q => by cases q) rfl ?_
      refine y_same (i := .iload_n 2) (len := 1) (r := (0, 0, 0, 0)) (pc' := 63) (ls' := [some (.inl (some A)), some (zi y2370), some (zi xi), some (zi y2371)]) (st' := [zi xi, .inl (some A), zi y2373, zi y2370]) (by decide +kernel) (fun k q => by cases q) rfl ?_
      refine y_cI (i := .invokestatic 256) (len := 3) (r := (1, 198, 12, 1651)) (nL := 1) (k := 1) (n := 1) (hs := []) (args := [zi xi]) (rest := [.inl (some A), zi y2373, zi y2370]) (l0 := [some (zi xi)]) (by decide +kernel) (Or.inl ⟨_, rfl⟩) rfl rfl rfl rfl (Nat.le_of_ble_eq_true rfl) rfl rfl (qI_le (by omega) (e_rightAt (d := 0) (by omega) (by omega))) (fun y2374 qy2374 hRy2374 => ?_)
      obtain ⟨rfl, hy2374⟩ := hRy2374
      refine y_same (i := .iload_n 3) (len := 1) (r := (0, 0, 0, 0)) (pc' := 67) (ls' := [some (.inl (some A)), some (zi y2370), some (zi xi), some (zi y2371)]) (st' := [zi y2371, zi y2374, .inl (some A), zi y2373, zi y2370]) (by decide +kernel) (fun k q => by cases q) rfl ?_
      refine y_add (len := 1) (r := (0, 0, 0, 0)) (by decide +kernel) (by omega) (by omega) (fun y2375 hy2375 => ?_)
      refine y_ial (i := ((80 + 4 * i) + 3)) (len := 1) (r := (0, 0, 0, 0)) (by decide +kernel) Q.1 tA aT (by omega) hdi2361 ?_
      refine y_bp (i := .ishl) (f := fun x y => x <<< (y &&& 31)) (len := 1) (r := (0, 0, 0, 0)) (by decide +kernel) rfl rfl (fun y2376 hy2376 => ?_)
      have hy2376 : y2376 = y2373 <<< (di2361 &&& 31) := hy2376
      refine y_bp (i := .ior) (f := fun x y => x ||| y) (len := 1) (r := (0, 0, 0, 0)) (by decide +kernel) rfl rfl (fun y2377 hy2377 => ?_)
      have hy2377 : y2377 = y2370 ||| y2376 := hy2377
      refine y_same (i := .istore_n 1) (len := 1) (r := (0, 0, 0, 0)) (pc' := 72) (ls' := [some (.inl (some A)), some (zi y2377), some (zi xi), some (zi y2371)]) (st' := []) (by decide +kernel) (fun k q => by cases q) rfl ?_
      refine y_inc (j := 3) (a := y2371) (c := 1) (ls' := fun v => [some (.inl (some A)), some (zi y2377), some (zi xi), some v]) (len := 3) (r := (0, 0, 0, 0)) (by decide +kernel) rfl (fun _ => rfl) (by decide) (by omega) (by omega) (fun y2378 hy2378 => ?_)
      show qX (d + 1) 217 75 [some (.inl (some A)), some (zi y2377), some (zi xi), some (zi y2378)] [] h t _
      refine y_goto (off := (-21)) (pc' := 54) (len := 3) (r := (0, 0, 0, 0)) (by decide +kernel) (by decide +kernel) ?_
      refine y_same (i := .iload_n 3) (len := 1) (r := (0, 0, 0, 0)) (pc' := 55) (ls' := [some (.inl (some A)), some (zi y2377), some (zi xi), some (zi y2378)]) (st' := [zi y2378]) (by decide +kernel) (fun k q => by cases q) rfl ?_
      refine y_ic (c := 4) (len := 1) (r := (0, 0, 0, 0)) (by decide +kernel) (by decide) (fun y2379 hy2379 => ?_)
      refine y_cT (c := .ge) (off := 22) (pc' := 78) (len := 3) (r := (0, 0, 0, 0)) (by decide +kernel) (acmpT (c := .ge) (by show _ ≤ _; omega)) (by decide +kernel) ?_
      refine y_inc (j := 2) (a := xi) (c := 1) (ls' := fun v => [some (.inl (some A)), some (zi y2377), some v, some (zi y2378)]) (len := 3) (r := (0, 0, 0, 0)) (by decide +kernel) rfl (fun _ => rfl) (by decide) (by omega) (by omega) (fun y2380 hy2380 => ?_)
      show qX (d + 1) 217 81 [some (.inl (some A)), some (zi y2377), some (zi y2380), some (zi y2378)] [] h t _
      refine y_goto (off := (-36)) (pc' := 45) (len := 3) (r := (0, 0, 0, 0)) (by decide +kernel) (by decide +kernel) ?_
      have b0 := bs_1 (c := y2358) (y := bi2361) (k := i2361.2.1) hy2358 ebi2361 (by omega) (by omega)
      rw [← hy2362] at b0
      have c0 := bs_or hb b0
      rw [← hy2363] at c0
      have b1 := bs_1 (c := y2366) (y := ci2361) (k := i2361.2.2.1) hy2366 eci2361 (by omega) (by omega)
      rw [← hy2369] at b1
      have c1 := bs_or c0 b1
      rw [← hy2370] at c1
      have b2 := bs_1 (c := y2373) (y := di2361) (k := i2361.2.2.2) hy2373 edi2361 (by omega) (by omega)
      rw [← hy2376] at b2
      have c2 := bs_or c1 b2
      rw [← hy2377] at c2
      refine ih (i + 1) y2377 y2380 (some (zi y2378)) (bs_cg c2 (fun v hv => ?_)) (by omega) (by omega) (by omega)
      show _ ↔ (mnt s.1 (v : Int) ∨ (∃ (j : Nat) (p : it4), j < (i + 1) ∧ s.2.1[j]? = some p ∧ mn4 p (v : Int)))
      rw [← mn_step (B := fun _ => True) (B2 := fun _ => True) ki2361]
      exact ⟨fun q => or_as2x4 q, fun q => or_as1x4 q⟩
theorem inp_C {d t A : Nat} {τ : List Nat} {h : zh} {s : sqT} (Q : QM τ h A s) {P : zo × zh × Nat → Prop} (kk : ∀ (xb xi : Int32) (l3 : Option zv), bs_ xb (fun v => mnJ s (v : Int)) → qX (d + 1) 217 125 [some (.inl (some A)), some (zi xb), some (zi xi), l3] [] h t P) : ∀ (n : Nat) (i : Nat) (xb : Int32) (xi : Int32) (l3 : Option zv), (bs_ xb (fun v => ((mnt s.1 (v : Int) ∨ mnt s.2.1 (v : Int)) ∨ (∃ (j : Nat) (p : it4), j < i ∧ s.2.2.1[j]? = some p ∧ mn3 p (v : Int))))) → (xi.toInt = (i : Int)) → (i ≤ s.2.2.1.length) → (s.2.2.1.length < i + n) → qX (d + 1) 217 86 [some (.inl (some A)), some (zi xb), some (zi xi), l3] [] h t P := by
  intro n
  induction n with
  | zero =>
    intro i xb xi l3 hb hxi hi hn
    exfalso
    omega
  | succ n ih =>
    intro i xb xi l3 hb hxi hi hn
    obtain ⟨T, c0, tA, aT, hc0, pT⟩ := Q.2.1
    refine y_same (i := .iload_n 2) (len := 1) (r := (0, 0, 0, 0)) (pc' := 87) (ls' := [some (.inl (some A)), some (zi xb), some (zi xi), l3]) (st' := [zi xi]) (by decide +kernel) (fun k q => by cases q) rfl ?_
    refine y_same (i := .aload_n 0) (len := 1) (r := (0, 0, 0, 0)) (pc' := 88) (ls' := [some (.inl (some A)), some (zi xb), some (zi xi), l3]) (st' := [.inl (some A), zi xi]) (by decide +kernel) (fun k q => by cases q) rfl ?_
    refine y_ic (c := 2) (len := 1) (r := (0, 0, 0, 0)) (by decide +kernel) (by decide) (fun y2381 hy2381 => ?_)
    obtain ⟨z2382, hz2382, ez2382⟩ := Q.2.2.1.2.2.1
    have ez2382 : z2382.toInt = ((s.2.2.1.length : Nat) : Int) := ez2382
    have mz2382 := qm_lenC Q
    have mz2382 : s.2.2.1.length ≤ 14 := mz2382
    refine y_ial (i := 2) (len := 1) (r := (0, 0, 0, 0)) (by decide +kernel) Q.1 tA aT (by omega) hz2382 ?_
    rcases Decidable.em (xi.toInt ≥ z2382.toInt) with q2383 | q2383
    ·
      refine y_cT (c := .ge) (off := 35) (pc' := 125) (len := 3) (r := (0, 0, 0, 0)) (by decide +kernel) (acmpT (c := .ge) (by show _ ≤ _; omega)) (by decide +kernel) ?_
      refine kk _ _ _ (bs_cg hb (fun v hv => ?_))
      show ((mnt s.1 (v : Int) ∨ mnt s.2.1 (v : Int)) ∨ (∃ (j : Nat) (p : it4), j < i ∧ s.2.2.1[j]? = some p ∧ mn3 p (v : Int))) ↔ _
      obtain rfl : i = s.2.2.1.length := by omega
      exact Iff.refl _
    ·
      refine y_cF (c := .ge) (off := 35) (len := 3) (r := (0, 0, 0, 0)) (by decide +kernel) (acmpF (c := .ge) (by show _ < _; omega)) ?_
      refine y_ic (c := 1) (len := 1) (r := (0, 0, 0, 0)) (by decide +kernel) (by decide) (fun y2384 hy2384 => ?_)
      refine y_same (i := .istore_n 3) (len := 1) (r := (0, 0, 0, 0)) (pc' := 95) (ls' := [some (.inl (some A)), some (zi xb), some (zi xi), some (zi y2384)]) (st' := []) (by decide +kernel) (fun k q => by cases q) rfl ?_
      refine y_same (i := .iload_n 3) (len := 1) (r := (0, 0, 0, 0)) (pc' := 96) (ls' := [some (.inl (some A)), some (zi xb), some (zi xi), some (zi y2384)]) (st' := [zi y2384]) (by decide +kernel) (fun k q => by cases q) rfl ?_
      refine y_ic (c := 3) (len := 1) (r := (0, 0, 0, 0)) (by decide +kernel) (by decide) (fun y2385 hy2385 => ?_)
      refine y_cF (c := .ge) (off := 22) (len := 3) (r := (0, 0, 0, 0)) (by decide +kernel) (acmpF (c := .ge) (by show _ < _; omega)) ?_
      refine y_same (i := .iload_n 1) (len := 1) (r := (0, 0, 0, 0)) (pc' := 101) (ls' := [some (.inl (some A)), some (zi xb), some (zi xi), some (zi y2384)]) (st' := [zi xb]) (by decide +kernel) (fun k q => by cases q) rfl ?_
      refine y_ic (c := 1) (len := 1) (r := (0, 0, 0, 0)) (by decide +kernel) (by decide) (fun y2386 hy2386 => ?_)
      refine y_same (i := .aload_n 0) (len := 1) (r := (0, 0, 0, 0)) (pc' := 103) (ls' := [some (.inl (some A)), some (zi xb), some (zi xi), some (zi y2384)]) (st' := [.inl (some A), zi y2386, zi xb]) (by decide +kernel) (fun k q => by cases q) rfl ?_
      refine y_same (i := .iload_n 2) (len := 1) (r := (0, 0, 0, 0)) (pc' := 104) (ls' := [some (.inl (some A)), some (zi xb), some (zi xi), some (zi y2384)]) (st' := [zi xi, .inl (some A), zi y2386, zi xb]) (by decide +kernel) (fun k q => by cases q) rfl ?_
      refine y_cI (i := .invokestatic 259) (len := 3) (r := (1, 199, 12, 1654)) (nL := 1) (k := 1) (n := 1) (hs := []) (args := [zi xi]) (rest := [.inl (some A), zi y2386, zi xb]) (l0 := [some (zi xi)]) (by decide +kernel) (Or.inl ⟨_, rfl⟩) rfl rfl rfl rfl (Nat.le_of_ble_eq_true rfl) rfl rfl (qI_le (by omega) (e_claimIn (d := 0) (by omega) (by omega))) (fun y2387 qy2387 hRy2387 => ?_)
      obtain ⟨rfl, hy2387⟩ := hRy2387
      refine y_same (i := .iload_n 3) (len := 1) (r := (0, 0, 0, 0)) (pc' := 108) (ls' := [some (.inl (some A)), some (zi xb), some (zi xi), some (zi y2384)]) (st' := [zi y2384, zi y2387, .inl (some A), zi y2386, zi xb]) (by decide +kernel) (fun k q => by cases q) rfl ?_
      refine y_add (len := 1) (r := (0, 0, 0, 0)) (by decide +kernel) (by omega) (by omega) (fun y2388 hy2388 => ?_)
      obtain ⟨i2389, ki2389⟩ : ∃ i9, s.2.2.1[i]? = some i9 := ⟨_, List.getElem?_eq_getElem (by omega)⟩
      have oi2389 := okQ_C Q.2.2.2 ki2389
      have pi2389 := oi2389.1
      unfold okV at pi2389
      obtain ⟨ai2389, bi2389, ci2389, di2389, ⟨hai2389, hbi2389, hci2389, hdi2389⟩, eai2389, ebi2389, eci2389, edi2389⟩ := qm_itC Q ki2389
      refine y_ial (i := ((136 + 4 * i) + 1)) (len := 1) (r := (0, 0, 0, 0)) (by decide +kernel) Q.1 tA aT (by omega) hbi2389 ?_
      refine y_bp (i := .ishl) (f := fun x y => x <<< (y &&& 31)) (len := 1) (r := (0, 0, 0, 0)) (by decide +kernel) rfl rfl (fun y2390 hy2390 => ?_)
      have hy2390 : y2390 = y2386 <<< (bi2389 &&& 31) := hy2390
      refine y_bp (i := .ior) (f := fun x y => x ||| y) (len := 1) (r := (0, 0, 0, 0)) (by decide +kernel) rfl rfl (fun y2391 hy2391 => ?_)
      have hy2391 : y2391 = xb ||| y2390 := hy2391
      refine y_same (i := .istore_n 1) (len := 1) (r := (0, 0, 0, 0)) (pc' := 113) (ls' := [some (.inl (some A)), some (zi y2391), some (zi xi), some (zi y2384)]) (st' := []) (by decide +kernel) (fun k q => by cases q) rfl ?_
      refine y_inc (j := 3) (a := y2384) (c := 1) (ls' := fun v => [some (.inl (some A)), some (zi y2391), some (zi xi), some v]) (len := 3) (r := (0, 0, 0, 0)) (by decide +kernel) rfl (fun _ => rfl) (by decide) (by omega) (by omega) (fun y2392 hy2392 => ?_)
      show qX (d + 1) 217 116 [some (.inl (some A)), some (zi y2391), some (zi xi), some (zi y2392)] [] h t _
      refine y_goto (off := (-21)) (pc' := 95) (len := 3) (r := (0, 0, 0, 0)) (by decide +kernel) (by decide +kernel) ?_
      refine y_same (i := .iload_n 3) (len := 1) (r := (0, 0, 0, 0)) (pc' := 96) (ls' := [some (.inl (some A)), some (zi y2391), some (zi xi), some (zi y2392)]) (st' := [zi y2392]) (by decide +kernel) (fun k q => by cases q) rfl ?_
      refine y_ic (c := 3) (len := 1) (r := (0, 0, 0, 0)) (by decide +kernel) (by decide) (fun y2393 hy2393 => ?_)
      refine y_cF (c := .ge) (off := 22) (len := 3) (r := (0, 0, 0, 0)) (by decide +kernel) (acmpF (c := .ge) (by show _ < _; omega)) ?_
      refine y_same (i := .iload_n 1) (len := 1) (r := (0, 0, 0, 0)) (pc' := 101) (ls' := [some (.inl (some A)), some (zi y2391), some (zi xi), some (zi y2392)]) (st' := [zi y2391]) (by decide +kernel) (fun k q => by cases q) rfl ?_
      refine y_ic (c := 1) (len := 1) (r := (0, 0, 0, 0)) (by decide +kernel) (by decide) (fun y2394 hy2394 => ?_)
      refine y_same (i := .aload_n 0) (len := 1) (r := (0, 0, 0, 0)) (pc' := 103) (ls' := [some (.inl (some A)), some (zi y2391), some (zi xi), some (zi y2392)]) (st' := [.inl (some A), zi y2394, zi y2391]) (by decide +kernel) (fun k q => by cases q) rfl ?_
      refine y_same (i := .iload_n 2) (len := 1) (r := (0, 0, 0, 0)) (pc' := 104) (ls' := [some (.inl (some A)), some (zi y2391), some (zi xi), some (zi y2392)]) (st' := [zi xi, .inl (some A), zi y2394, zi y2391]) (by decide +kernel) (fun k q => by cases q) rfl ?_
      refine y_cI (i := .invokestatic 259) (len := 3) (r := (1, 199, 12, 1654)) (nL := 1) (k := 1) (n := 1) (hs := []) (args := [zi xi]) (rest := [.inl (some A), zi y2394, zi y2391]) (l0 := [some (zi xi)]) (by decide +kernel) (Or.inl ⟨_, rfl⟩) rfl rfl rfl rfl (Nat.le_of_ble_eq_true rfl) rfl rfl (qI_le (by omega) (e_claimIn (d := 0) (by omega) (by omega))) (fun y2395 qy2395 hRy2395 => ?_)
      obtain ⟨rfl, hy2395⟩ := hRy2395
      refine y_same (i := .iload_n 3) (len := 1) (r := (0, 0, 0, 0)) (pc' := 108) (ls' := [some (.inl (some A)), some (zi y2391), some (zi xi), some (zi y2392)]) (st' := [zi y2392, zi y2395, .inl (some A), zi y2394, zi y2391]) (by decide +kernel) (fun k q => by cases q) rfl ?_
      refine y_add (len := 1) (r := (0, 0, 0, 0)) (by decide +kernel) (by omega) (by omega) (fun y2396 hy2396 => ?_)
      refine y_ial (i := ((136 + 4 * i) + 2)) (len := 1) (r := (0, 0, 0, 0)) (by decide +kernel) Q.1 tA aT (by omega) hci2389 ?_
      refine y_bp (i := .ishl) (f := fun x y => x <<< (y &&& 31)) (len := 1) (r := (0, 0, 0, 0)) (by decide +kernel) rfl rfl (fun y2397 hy2397 => ?_)
      have hy2397 : y2397 = y2394 <<< (ci2389 &&& 31) := hy2397
      refine y_bp (i := .ior) (f := fun x y => x ||| y) (len := 1) (r := (0, 0, 0, 0)) (by decide +kernel) rfl rfl (fun y2398 hy2398 => ?_)
      have hy2398 : y2398 = y2391 ||| y2397 := hy2398
      refine y_same (i := .istore_n 1) (len := 1) (r := (0, 0, 0, 0)) (pc' := 113) (ls' := [some (.inl (some A)), some (zi y2398), some (zi xi), some (zi y2392)]) (st' := []) (by decide +kernel) (fun k q => by cases q) rfl ?_
      refine y_inc (j := 3) (a := y2392) (c := 1) (ls' := fun v => [some (.inl (some A)), some (zi y2398), some (zi xi), some v]) (len := 3) (r := (0, 0, 0, 0)) (by decide +kernel) rfl (fun _ => rfl) (by decide) (by omega) (by omega) (fun y2399 hy2399 => ?_)
      show qX (d + 1) 217 116 [some (.inl (some A)), some (zi y2398), some (zi xi), some (zi y2399)] [] h t _
      refine y_goto (off := (-21)) (pc' := 95) (len := 3) (r := (0, 0, 0, 0)) (by decide +kernel) (by decide +kernel) ?_
      refine y_same (i := .iload_n 3) (len := 1) (r := (0, 0, 0, 0)) (pc' := 96) (ls' := [some (.inl (some A)), some (zi y2398), some (zi xi), some (zi y2399)]) (st' := [zi y2399]) (by decide +kernel) (fun k q => by cases q) rfl ?_
      refine y_ic (c := 3) (len := 1) (r := (0, 0, 0, 0)) (by decide +kernel) (by decide) (fun y2400 hy2400 => ?_)
      refine y_cT (c := .ge) (off := 22) (pc' := 119) (len := 3) (r := (0, 0, 0, 0)) (by decide +kernel) (acmpT (c := .ge) (by show _ ≤ _; omega)) (by decide +kernel) ?_
      refine y_inc (j := 2) (a := xi) (c := 1) (ls' := fun v => [some (.inl (some A)), some (zi y2398), some v, some (zi y2399)]) (len := 3) (r := (0, 0, 0, 0)) (by decide +kernel) rfl (fun _ => rfl) (by decide) (by omega) (by omega) (fun y2401 hy2401 => ?_)
      show qX (d + 1) 217 122 [some (.inl (some A)), some (zi y2398), some (zi y2401), some (zi y2399)] [] h t _
      refine y_goto (off := (-36)) (pc' := 86) (len := 3) (r := (0, 0, 0, 0)) (by decide +kernel) (by decide +kernel) ?_
      have b0 := bs_1 (c := y2386) (y := bi2389) (k := i2389.2.1) hy2386 ebi2389 (by omega) (by omega)
      rw [← hy2390] at b0
      have c0 := bs_or hb b0
      rw [← hy2391] at c0
      have b1 := bs_1 (c := y2394) (y := ci2389) (k := i2389.2.2.1) hy2394 eci2389 (by omega) (by omega)
      rw [← hy2397] at b1
      have c1 := bs_or c0 b1
      rw [← hy2398] at c1
      refine ih (i + 1) y2398 y2401 (some (zi y2399)) (bs_cg c1 (fun v hv => ?_)) (by omega) (by omega) (by omega)
      show _ ↔ ((mnt s.1 (v : Int) ∨ mnt s.2.1 (v : Int)) ∨ (∃ (j : Nat) (p : it4), j < (i + 1) ∧ s.2.2.1[j]? = some p ∧ mn3 p (v : Int)))
      rw [← mn_step3 ki2389]
      exact ⟨fun q => or_as2x3 q, fun q => or_as1x3 q⟩
theorem m_inp {d t A : Nat} {τ : List Nat} {h : zh} {s : sqT} (Q : QM τ h A s) : qI (d + 2) 217 [some (.inl (some A)), none, none, none] h t (fun y h1 => h = h1 ∧ bs_ y (fun v => mnJ s (v : Int))) := by
  refine qI_of ?_
  refine y_ic (c := 0) (len := 1) (r := (0, 0, 0, 0)) (by decide +kernel) (by decide) (fun y2402 hy2402 => ?_)
  refine y_same (i := .istore_n 1) (len := 1) (r := (0, 0, 0, 0)) (pc' := 2) (ls' := [some (.inl (some A)), some (zi y2402), none, none]) (st' := []) (by decide +kernel) (fun k q => by cases q) rfl ?_
  refine y_ic (c := 0) (len := 1) (r := (0, 0, 0, 0)) (by decide +kernel) (by decide) (fun y2403 hy2403 => ?_)
  refine y_same (i := .istore_n 2) (len := 1) (r := (0, 0, 0, 0)) (pc' := 4) (ls' := [some (.inl (some A)), some (zi y2402), some (zi y2403), none]) (st' := []) (by decide +kernel) (fun k q => by cases q) rfl ?_
  refine inp_L Q (fun b1 i1 l1 hb1 => ?_) (s.1.length + 1) 0 y2402 y2403 none (bs_0 (by omega) (fun v => by rintro ⟨j, _, a1, -⟩; omega)) (by omega) (by omega) (by omega)
  refine y_ic (c := 0) (len := 1) (r := (0, 0, 0, 0)) (by decide +kernel) (by decide) (fun y2404 hy2404 => ?_)
  refine y_same (i := .istore_n 2) (len := 1) (r := (0, 0, 0, 0)) (pc' := 45) (ls' := [some (.inl (some A)), some (zi b1), some (zi y2404), l1]) (st' := []) (by decide +kernel) (fun k q => by cases q) rfl ?_
  refine inp_R Q (fun b2 i2 l2 hb2 => ?_) (s.2.1.length + 1) 0 b1 y2404 l1 (bs_cg hb1 (fun v hv => ⟨Or.inl, fun q => q.elim id (fun ⟨j, _, a1, _⟩ => absurd a1 (Nat.not_lt_zero j))⟩)) (by omega) (by omega) (by omega)
  refine y_ic (c := 0) (len := 1) (r := (0, 0, 0, 0)) (by decide +kernel) (by decide) (fun y2405 hy2405 => ?_)
  refine y_same (i := .istore_n 2) (len := 1) (r := (0, 0, 0, 0)) (pc' := 86) (ls' := [some (.inl (some A)), some (zi b2), some (zi y2405), l2]) (st' := []) (by decide +kernel) (fun k q => by cases q) rfl ?_
  refine inp_C Q (fun b3 i3 l3 hb3 => ?_) (s.2.2.1.length + 1) 0 b2 y2405 l2 (bs_cg hb2 (fun v hv => ⟨Or.inl, fun q => q.elim id (fun ⟨j, _, a1, _⟩ => absurd a1 (Nat.not_lt_zero j))⟩)) (by omega) (by omega) (by omega)
  refine y_same (i := .iload_n 1) (len := 1) (r := (0, 0, 0, 0)) (pc' := 126) (ls' := [some (.inl (some A)), some (zi b3), some (zi i3), l3]) (st' := [zi b3]) (by decide +kernel) (fun k q => by cases q) rfl ?_
  refine y_rI (len := 1) (r := (0, 0, 0, 0)) (nL := 4) (k := 1) (n9 := 1) (hs := []) (by decide +kernel) rfl rfl ?_
  exact ⟨rfl, hb3⟩
theorem row_nz {D : dfT} {v : Int32} {i : Nat} (od : okD D) (b : bs_ v (fun y => D (i : Int) (y : Int))) : v.toInt ≠ 0 ↔ ∃ y, D (i : Int) y := by
  constructor
  · intro h
    refine Classical.byContradiction (fun q => h ?_)
    have e : v = 0 := bs_eq b (S' := fun _ => False) (fun w hw => ⟨fun z => (by rw [b_0] at z; cases z), fun z => z.elim⟩) (fun w _ => ⟨fun z => q ⟨_, z⟩, fun z => z.elim⟩)
    rw [e]
    rfl
  · rintro ⟨y, hy⟩ h
    have r := od.1 _ _ hy
    have h9 := (b y.toNat (by omega)).mpr (by show D (i : Int) ((y.toNat : Nat) : Int); rw [show ((y.toNat : Nat) : Int) = y by omega]; exact hy)
    rw [ofI (w := 0) h rfl, b_0] at h9
    cases h9
theorem ina_l {d t A : Nat} {τ : List Nat} {h : zh} {s : sqT} (Q : QM τ h A s) : ∀ (n : Nat) (i : Nat) (xb : Int32) (xi : Int32), (bs_ xb (fun v => (mnJ s (v : Int) ∨ ∃ x : Nat, x < i ∧ (x : Int) = (v : Int) ∧ ∃ y, s.2.2.2 (x : Int) y))) → (xi.toInt = (i : Int)) → (i ≤ 21) → (21 < i + n) → qX (d + 2) 218 7 [some (.inl (some A)), some (zi xb), some (zi xi)] [] h t (rI (fun y h1 => h = h1 ∧ bs_ y (fun v => mnJ s (v : Int) ∨ ∃ y, s.2.2.2 (v : Int) y)) t) := by
  intro n
  induction n with
  | zero =>
    intro i xb xi hb hxi hi hn
    exfalso
    omega
  | succ n ih =>
    intro i xb xi hb hxi hi hn
    obtain ⟨T, c0, tA, aT, hc0, pT⟩ := Q.2.1
    refine y_same (i := .iload_n 2) (len := 1) (r := (0, 0, 0, 0)) (pc' := 8) (ls' := [some (.inl (some A)), some (zi xb), some (zi xi)]) (st' := [zi xi]) (by decide +kernel) (fun k q => by cases q) rfl ?_
    refine y_bi (c := 21) (len := 2) (r := (0, 0, 0, 0)) (by decide +kernel) (by decide) (fun y2406 hy2406 => ?_)
    rcases Decidable.em (xi.toInt ≥ y2406.toInt) with q2407 | q2407
    ·
      refine y_cT (c := .ge) (off := 23) (pc' := 33) (len := 3) (r := (0, 0, 0, 0)) (by decide +kernel) (acmpT (c := .ge) (by show _ ≤ _; omega)) (by decide +kernel) ?_
      refine y_same (i := .iload_n 1) (len := 1) (r := (0, 0, 0, 0)) (pc' := 34) (ls' := [some (.inl (some A)), some (zi xb), some (zi xi)]) (st' := [zi xb]) (by decide +kernel) (fun k q => by cases q) rfl ?_
      refine y_rI (len := 1) (r := (0, 0, 0, 0)) (nL := 3) (k := 1) (n9 := 1) (hs := []) (by decide +kernel) rfl rfl ?_
      refine ⟨rfl, bs_cg hb (fun v hv => ?_)⟩
      show (mnJ s (v : Int) ∨ ∃ x : Nat, x < i ∧ (x : Int) = (v : Int) ∧ ∃ y, s.2.2.2 (x : Int) y) ↔ (mnJ s (v : Int) ∨ ∃ y, s.2.2.2 (v : Int) y)
      refine ⟨fun q => q.elim Or.inl (fun ⟨x, _, h2, h3⟩ => Or.inr (by rw [← h2]; exact h3)), fun q => q.elim Or.inl (fun ⟨y, hy⟩ => Or.inr ⟨v, ?_, rfl, y, hy⟩)⟩
      have := Q.2.2.2.2.2.2.1 _ _ hy
      omega
    ·
      refine y_cF (c := .ge) (off := 23) (len := 3) (r := (0, 0, 0, 0)) (by decide +kernel) (acmpF (c := .ge) (by show _ < _; omega)) ?_
      refine y_same (i := .aload_n 0) (len := 1) (r := (0, 0, 0, 0)) (pc' := 14) (ls' := [some (.inl (some A)), some (zi xb), some (zi xi)]) (st' := [.inl (some A)]) (by decide +kernel) (fun k q => by cases q) rfl ?_
      refine y_ic (c := 3) (len := 1) (r := (0, 0, 0, 0)) (by decide +kernel) (by decide) (fun y2408 hy2408 => ?_)
      refine y_same (i := .iload_n 2) (len := 1) (r := (0, 0, 0, 0)) (pc' := 16) (ls' := [some (.inl (some A)), some (zi xb), some (zi xi)]) (st' := [zi xi, zi y2408, .inl (some A)]) (by decide +kernel) (fun k q => by cases q) rfl ?_
      refine y_add (len := 1) (r := (0, 0, 0, 0)) (by decide +kernel) (by omega) (by omega) (fun y2409 hy2409 => ?_)
      obtain ⟨v2410, hv2410, bv2410⟩ := Q.2.2.1.2.2.2.2.2.2 i (by omega)
      refine y_ial (i := (3 + i)) (len := 1) (r := (0, 0, 0, 0)) (by decide +kernel) Q.1 tA aT (by omega) hv2410 ?_
      rcases Decidable.em (v2410.toInt = 0) with q2411 | q2411
      ·
        refine y_iT (c := .eq) (off := 9) (pc' := 27) (len := 3) (r := (0, 0, 0, 0)) (by decide +kernel) (acmpT (c := .eq) (by show _ = _; omega)) (by decide +kernel) ?_
        refine y_inc (j := 2) (a := xi) (c := 1) (ls' := fun v => [some (.inl (some A)), some (zi xb), some v]) (len := 3) (r := (0, 0, 0, 0)) (by decide +kernel) rfl (fun _ => rfl) (by decide) (by omega) (by omega) (fun y2412 hy2412 => ?_)
        show qX (d + 2) 218 30 [some (.inl (some A)), some (zi xb), some (zi y2412)] [] h t _
        refine y_goto (off := (-23)) (pc' := 7) (len := 3) (r := (0, 0, 0, 0)) (by decide +kernel) (by decide +kernel) ?_
        have nz : v2410.toInt ≠ 0 ↔ ∃ y, s.2.2.2 (i : Int) y := row_nz Q.2.2.2.2.2.2 bv2410
        refine ih (i + 1) xb y2412 (bs_cg hb (fun v hv => ?_)) (by omega) (by omega) (by omega)
        show (mnJ s (v : Int) ∨ ∃ x : Nat, x < i ∧ (x : Int) = (v : Int) ∧ ∃ y, s.2.2.2 (x : Int) y) ↔ (mnJ s (v : Int) ∨ ∃ x : Nat, x < (i + 1) ∧ (x : Int) = (v : Int) ∧ ∃ y, s.2.2.2 (x : Int) y)
        refine ⟨fun q => q.elim Or.inl (fun ⟨x, h1, h2⟩ => Or.inr ⟨x, by omega, h2⟩), fun q => q.elim Or.inl (fun ⟨x, h1, h2, h3⟩ => ?_)⟩
        rcases Nat.lt_or_ge x i with q9 | q9
        · exact Or.inr ⟨x, q9, h2, h3⟩
        · obtain rfl : x = i := by omega
          exact absurd (nz.mpr h3) (by omega)
      ·
        refine y_iF (c := .eq) (off := 9) (len := 3) (r := (0, 0, 0, 0)) (by decide +kernel) (acmpF (c := .eq) (by show ¬ (_ = _); omega)) ?_
        refine y_same (i := .iload_n 1) (len := 1) (r := (0, 0, 0, 0)) (pc' := 22) (ls' := [some (.inl (some A)), some (zi xb), some (zi xi)]) (st' := [zi xb]) (by decide +kernel) (fun k q => by cases q) rfl ?_
        refine y_ic (c := 1) (len := 1) (r := (0, 0, 0, 0)) (by decide +kernel) (by decide) (fun y2413 hy2413 => ?_)
        refine y_same (i := .iload_n 2) (len := 1) (r := (0, 0, 0, 0)) (pc' := 24) (ls' := [some (.inl (some A)), some (zi xb), some (zi xi)]) (st' := [zi xi, zi y2413, zi xb]) (by decide +kernel) (fun k q => by cases q) rfl ?_
        refine y_bp (i := .ishl) (f := fun x y => x <<< (y &&& 31)) (len := 1) (r := (0, 0, 0, 0)) (by decide +kernel) rfl rfl (fun y2414 hy2414 => ?_)
        have hy2414 : y2414 = y2413 <<< (xi &&& 31) := hy2414
        refine y_bp (i := .ior) (f := fun x y => x ||| y) (len := 1) (r := (0, 0, 0, 0)) (by decide +kernel) rfl rfl (fun y2415 hy2415 => ?_)
        have hy2415 : y2415 = xb ||| y2414 := hy2415
        refine y_same (i := .istore_n 1) (len := 1) (r := (0, 0, 0, 0)) (pc' := 27) (ls' := [some (.inl (some A)), some (zi y2415), some (zi xi)]) (st' := []) (by decide +kernel) (fun k q => by cases q) rfl ?_
        refine y_inc (j := 2) (a := xi) (c := 1) (ls' := fun v => [some (.inl (some A)), some (zi y2415), some v]) (len := 3) (r := (0, 0, 0, 0)) (by decide +kernel) rfl (fun _ => rfl) (by decide) (by omega) (by omega) (fun y2416 hy2416 => ?_)
        show qX (d + 2) 218 30 [some (.inl (some A)), some (zi y2415), some (zi y2416)] [] h t _
        refine y_goto (off := (-23)) (pc' := 7) (len := 3) (r := (0, 0, 0, 0)) (by decide +kernel) (by decide +kernel) ?_
        have nz : v2410.toInt ≠ 0 ↔ ∃ y, s.2.2.2 (i : Int) y := row_nz Q.2.2.2.2.2.2 bv2410
        have b1 := bs_1 (c := y2413) (y := xi) (k := (i : Int)) hy2413 hxi (by omega) (by omega)
        rw [← hy2414] at b1
        have b2 := bs_or hb b1
        rw [← hy2415] at b2
        refine ih (i + 1) y2415 y2416 (bs_cg b2 (fun v hv => ?_)) (by omega) (by omega) (by omega)
        show (mnJ s (v : Int) ∨ ∃ x : Nat, x < i ∧ (x : Int) = (v : Int) ∧ ∃ y, s.2.2.2 (x : Int) y) ∨ (i : Int) = (v : Int) ↔ (mnJ s (v : Int) ∨ ∃ x : Nat, x < (i + 1) ∧ (x : Int) = (v : Int) ∧ ∃ y, s.2.2.2 (x : Int) y)
        constructor
        · rintro ((q | ⟨x, h1, h2⟩) | q)
          · exact Or.inl q
          · exact Or.inr ⟨x, by omega, h2⟩
          · exact Or.inr ⟨i, by omega, q, nz.mp (by omega)⟩
        · rintro (q | ⟨x, h1, h2, h3⟩)
          · exact Or.inl (Or.inl q)
          · rcases Nat.lt_or_ge x i with q9 | q9
            · exact Or.inl (Or.inr ⟨x, q9, h2, h3⟩)
            · obtain rfl : x = i := by omega
              exact Or.inr h2
theorem m_ina {d t A : Nat} {τ : List Nat} {h : zh} {s : sqT} (Q : QM τ h A s) : qI (d + 3) 218 [some (.inl (some A)), none, none] h t (fun y h1 => h = h1 ∧ bs_ y (fun v => mnJ s (v : Int) ∨ ∃ y, s.2.2.2 (v : Int) y)) := by
  refine qI_of ?_
  refine y_same (i := .aload_n 0) (len := 1) (r := (0, 0, 0, 0)) (pc' := 1) (ls' := [some (.inl (some A)), none, none]) (st' := [.inl (some A)]) (by decide +kernel) (fun k q => by cases q) rfl ?_
  refine y_cI (i := .invokestatic 301) (len := 3) (r := (1, 217, 12, 1706)) (nL := 4) (k := 1) (n := 1) (hs := []) (args := [.inl (some A)]) (rest := []) (l0 := [some (.inl (some A)), none, none, none]) (by decide +kernel) (Or.inl ⟨_, rfl⟩) rfl rfl rfl rfl (Nat.le_of_ble_eq_true rfl) rfl rfl (qI_le (by omega) (m_inp (d := 0) Q)) (fun y2417 qy2417 hRy2417 => ?_)
  obtain ⟨rfl, ty2417⟩ := hRy2417
  refine y_same (i := .istore_n 1) (len := 1) (r := (0, 0, 0, 0)) (pc' := 5) (ls' := [some (.inl (some A)), some (zi y2417), none]) (st' := []) (by decide +kernel) (fun k q => by cases q) rfl ?_
  refine y_ic (c := 0) (len := 1) (r := (0, 0, 0, 0)) (by decide +kernel) (by decide) (fun y2418 hy2418 => ?_)
  refine y_same (i := .istore_n 2) (len := 1) (r := (0, 0, 0, 0)) (pc' := 7) (ls' := [some (.inl (some A)), some (zi y2417), some (zi y2418)]) (st' := []) (by decide +kernel) (fun k q => by cases q) rfl ?_
  exact ina_l Q 22 0 y2417 y2418 (bs_cg ty2417 (fun v hv => ⟨Or.inl, fun q => q.elim id (fun ⟨x, h1, _⟩ => absurd h1 (Nat.not_lt_zero x))⟩)) (by omega) (by omega) (by omega)
theorem frm_l {d t A : Nat} {h : zh} {xw xm : Int32} {S : Int → Prop} (bm : bs_ xm (fun v => S (v : Int))) : ∀ (n : Nat) (u : Nat) (xu : Int32), (xu.toInt = (u : Int)) → (6 ≤ u) → (u ≤ 21) → (∀ v : Nat, 6 ≤ v → v < u → S (v : Int)) → (21 < u + n) → qX (d + 3) 219 12 [some (.inl (some A)), some (zi xw), some (zi xm), some (zi xu)] [] h t (rI (fun y h1 => h = h1 ∧ ∃ u : Nat, y.toInt = (u : Int) ∧ frs S u) t) := by
  intro n
  induction n with
  | zero =>
    intro u xu hxu h6 h21 c1 hn
    exfalso
    omega
  | succ n ih =>
    intro u xu hxu h6 h21 c1 hn
    skip
    refine y_same (i := .iload_n 3) (len := 1) (r := (0, 0, 0, 0)) (pc' := 13) (ls' := [some (.inl (some A)), some (zi xw), some (zi xm), some (zi xu)]) (st' := [zi xu]) (by decide +kernel) (fun k q => by cases q) rfl ?_
    refine y_bi (c := 21) (len := 2) (r := (0, 0, 0, 0)) (by decide +kernel) (by decide) (fun y2419 hy2419 => ?_)
    rcases Decidable.em (xu.toInt ≥ y2419.toInt) with q2420 | q2420
    ·
      refine y_cT (c := .ge) (off := 18) (pc' := 33) (len := 3) (r := (0, 0, 0, 0)) (by decide +kernel) (acmpT (c := .ge) (by show _ ≤ _; omega)) (by decide +kernel) ?_
      refine y_same (i := .iload_n 3) (len := 1) (r := (0, 0, 0, 0)) (pc' := 34) (ls' := [some (.inl (some A)), some (zi xw), some (zi xm), some (zi xu)]) (st' := [zi xu]) (by decide +kernel) (fun k q => by cases q) rfl ?_
      refine y_rI (len := 1) (r := (0, 0, 0, 0)) (nL := 4) (k := 1) (n9 := 2) (hs := []) (by decide +kernel) rfl rfl ?_
      exact ⟨rfl, u, hxu, h6, by omega, c1, fun q9 => absurd q9 (by omega)⟩
    ·
      refine y_cF (c := .ge) (off := 18) (len := 3) (r := (0, 0, 0, 0)) (by decide +kernel) (acmpF (c := .ge) (by show _ < _; omega)) ?_
      refine y_same (i := .iload_n 2) (len := 1) (r := (0, 0, 0, 0)) (pc' := 19) (ls' := [some (.inl (some A)), some (zi xw), some (zi xm), some (zi xu)]) (st' := [zi xm]) (by decide +kernel) (fun k q => by cases q) rfl ?_
      refine y_same (i := .iload_n 3) (len := 1) (r := (0, 0, 0, 0)) (pc' := 20) (ls' := [some (.inl (some A)), some (zi xw), some (zi xm), some (zi xu)]) (st' := [zi xu, zi xm]) (by decide +kernel) (fun k q => by cases q) rfl ?_
      refine y_bp (i := .ishr) (f := fun x y => x >>> (y &&& 31)) (len := 1) (r := (0, 0, 0, 0)) (by decide +kernel) rfl rfl (fun y2421 hy2421 => ?_)
      have hy2421 : y2421 = xm >>> (xu &&& 31) := hy2421
      refine y_ic (c := 1) (len := 1) (r := (0, 0, 0, 0)) (by decide +kernel) (by decide) (fun y2422 hy2422 => ?_)
      refine y_bp (i := .iand) (f := fun x y => x &&& y) (len := 1) (r := (0, 0, 0, 0)) (by decide +kernel) rfl rfl (fun y2423 hy2423 => ?_)
      have hy2423 : y2423 = y2421 &&& y2422 := hy2423
      have t9 := bs_t (k := u) bm hxu (by omega) hy2421 hy2422 hy2423
      refine y_ic (c := 1) (len := 1) (r := (0, 0, 0, 0)) (by decide +kernel) (by decide) (fun y2424 hy2424 => ?_)
      rcases Decidable.em (y2423.toInt ≠ y2424.toInt) with q2425 | q2425
      ·
        refine y_cT (c := .ne) (off := 9) (pc' := 33) (len := 3) (r := (0, 0, 0, 0)) (by decide +kernel) (acmpT (c := .ne) (by show ¬ (_ = _); omega)) (by decide +kernel) ?_
        refine y_same (i := .iload_n 3) (len := 1) (r := (0, 0, 0, 0)) (pc' := 34) (ls' := [some (.inl (some A)), some (zi xw), some (zi xm), some (zi xu)]) (st' := [zi xu]) (by decide +kernel) (fun k q => by cases q) rfl ?_
        refine y_rI (len := 1) (r := (0, 0, 0, 0)) (nL := 4) (k := 1) (n9 := 2) (hs := []) (by decide +kernel) rfl rfl ?_
        refine ⟨rfl, u, hxu, h6, by omega, c1, fun _ q9 => ?_⟩
        rcases t9 with ⟨q8, -⟩ | ⟨-, q8⟩
        · omega
        · exact q8 q9
      ·
        refine y_cF (c := .ne) (off := 9) (len := 3) (r := (0, 0, 0, 0)) (by decide +kernel) (acmpF (c := .ne) (by show _ = _; omega)) ?_
        refine y_inc (j := 3) (a := xu) (c := 1) (ls' := fun v => [some (.inl (some A)), some (zi xw), some (zi xm), some v]) (len := 3) (r := (0, 0, 0, 0)) (by decide +kernel) rfl (fun _ => rfl) (by decide) (by omega) (by omega) (fun y2426 hy2426 => ?_)
        show qX (d + 3) 219 30 [some (.inl (some A)), some (zi xw), some (zi xm), some (zi y2426)] [] h t _
        refine y_goto (off := (-18)) (pc' := 12) (len := 3) (r := (0, 0, 0, 0)) (by decide +kernel) (by decide +kernel) ?_
        refine ih (u + 1) y2426 (by omega) (by omega) (by omega) (fun v h1 h2 => ?_) (by omega)
        rcases Nat.lt_or_ge v u with q9 | q9
        · exact c1 v h1 q9
        · obtain rfl : v = u := by omega
          rcases t9 with ⟨-, q8⟩ | ⟨q8, -⟩
          · exact q8
          · omega
theorem frs_cg {S S' : Int → Prop} {u : Nat} (h : frs S u) (e : ∀ v : Nat, 6 ≤ v → v < 21 → (S (v : Int) ↔ S' (v : Int))) : frs S' u := by
  obtain ⟨h1, h2, h3, h4⟩ := h
  exact ⟨h1, h2, fun v a b => (e v a (by omega)).mp (h3 v a b), fun a q => h4 a ((e u h1 a).mpr q)⟩
theorem bs_1w {c y : Int32} {k : Int} (hc : c.toInt = 1) (hy : y.toInt = k) (h0 : 0 ≤ k) (h1 : k ≤ 30) : bs_ (c <<< (y &&& 31)) (fun v => k = (v : Int)) := fun v hv => by
  rw [ofI (w := 1) hc rfl, nI_of_i (x := y) (n := k.toNat) (by omega), bt_shl1 (by omega) hv, decide_eq_true_eq]
  omega
theorem m_frs {d t A : Nat} {τ : List Nat} {h : zh} {s : sqT} (Q : QM τ h A s) {w : Nat} {xw : Int32} (exw : xw.toInt = (w : Int)) (hw : w ≤ 21) : qI (d + 4) 219 [some (.inl (some A)), some (zi xw), none, none] h t (fun y h1 => h = h1 ∧ ∃ u : Nat, y.toInt = (u : Int) ∧ frs (fun v => mnA s v ∨ v = (w : Int)) u) := by
  refine qI_of ?_
  refine y_same (i := .aload_n 0) (len := 1) (r := (0, 0, 0, 0)) (pc' := 1) (ls' := [some (.inl (some A)), some (zi xw), none, none]) (st' := [.inl (some A)]) (by decide +kernel) (fun k q => by cases q) rfl ?_
  refine y_cI (i := .invokestatic 305) (len := 3) (r := (1, 218, 12, 1703)) (nL := 3) (k := 1) (n := 1) (hs := []) (args := [.inl (some A)]) (rest := []) (l0 := [some (.inl (some A)), none, none]) (by decide +kernel) (Or.inl ⟨_, rfl⟩) rfl rfl rfl rfl (Nat.le_of_ble_eq_true rfl) rfl rfl (qI_le (by omega) (m_ina (d := 0) Q)) (fun y2427 qy2427 hRy2427 => ?_)
  obtain ⟨rfl, ty2427⟩ := hRy2427
  refine y_ic (c := 1) (len := 1) (r := (0, 0, 0, 0)) (by decide +kernel) (by decide) (fun y2428 hy2428 => ?_)
  refine y_same (i := .iload_n 1) (len := 1) (r := (0, 0, 0, 0)) (pc' := 6) (ls' := [some (.inl (some A)), some (zi xw), none, none]) (st' := [zi xw, zi y2428, zi y2427]) (by decide +kernel) (fun k q => by cases q) rfl ?_
  refine y_bp (i := .ishl) (f := fun x y => x <<< (y &&& 31)) (len := 1) (r := (0, 0, 0, 0)) (by decide +kernel) rfl rfl (fun y2429 hy2429 => ?_)
  have hy2429 : y2429 = y2428 <<< (xw &&& 31) := hy2429
  refine y_bp (i := .ior) (f := fun x y => x ||| y) (len := 1) (r := (0, 0, 0, 0)) (by decide +kernel) rfl rfl (fun y2430 hy2430 => ?_)
  have hy2430 : y2430 = y2427 ||| y2429 := hy2430
  refine y_same (i := .istore_n 2) (len := 1) (r := (0, 0, 0, 0)) (pc' := 9) (ls' := [some (.inl (some A)), some (zi xw), some (zi y2430), none]) (st' := []) (by decide +kernel) (fun k q => by cases q) rfl ?_
  refine y_bi (c := 6) (len := 2) (r := (0, 0, 0, 0)) (by decide +kernel) (by decide) (fun y2431 hy2431 => ?_)
  refine y_same (i := .istore_n 3) (len := 1) (r := (0, 0, 0, 0)) (pc' := 12) (ls' := [some (.inl (some A)), some (zi xw), some (zi y2430), some (zi y2431)]) (st' := []) (by decide +kernel) (fun k q => by cases q) rfl ?_
  have b1 := bs_1w (c := y2428) (y := xw) (k := (w : Int)) hy2428 exw (by omega) (by omega)
  rw [← hy2429] at b1
  have b2 := bs_or ty2427 b1
  rw [← hy2430] at b2
  refine qX_I (frm_l (A := A) (xw := xw) (S := fun v => (mnJ s v ∨ ∃ y, s.2.2.2 v y) ∨ (w : Int) = v) b2 16 6 y2431 (by omega) (by omega) (by omega) (fun v h1 h2 => absurd h2 (by omega)) (by omega)) (fun y h1 hR => ?_)
  obtain ⟨e1, u, e2, f⟩ := hR
  refine ⟨e1, u, e2, frs_cg f (fun v h6 h21 => ?_)⟩
  show (mnJ s (v : Int) ∨ ∃ y, s.2.2.2 (v : Int) y) ∨ (w : Int) = (v : Int) ↔ (mnP s (v : Int) ∨ ∃ a, s.2.2.2 a (v : Int)) ∨ (v : Int) = (w : Int)
  rw [mnJ_P Q.2.2.2 (show (v : Int) ≠ 0 by omega)]
  exact ⟨fun q => q.elim (fun q => Or.inl (q.elim Or.inl (fun ⟨y, hy⟩ => Or.inr ⟨y, Q.2.2.2.2.2.2.2 _ _ hy⟩))) (fun q => Or.inr q.symm), fun q => q.elim (fun q => Or.inl (q.elim Or.inl (fun ⟨y, hy⟩ => Or.inr ⟨y, Q.2.2.2.2.2.2.2 _ _ hy⟩))) (fun q => Or.inr q.symm)⟩
theorem m_cls {d t A : Nat} {τ : List Nat} {h : zh} {s : sqT} (Q : QM τ h A s) {x y : Int} {xx xy : Int32} (exx : xx.toInt = x) (hx : 0 ≤ x ∧ x ≤ 20) (exy : xy.toInt = y) (hy : 0 ≤ y ∧ y ≤ 20) (room : ∀ c0 : Int, (∃ T, τ[A]? = some T ∧ atyp T = some (.inl (0, 200, wRs c0))) → (s.2.2.1.length : Int) + 1 ≤ c0) : qV (d + 2) 210 [some (.inl (some A)), some (zi xx), some (zi xy)] h t (fun h1 => QM τ h1 A (s.1, s.2.1, s.2.2.1 ++ [(1, x, y, 0)], s.2.2.2) ∧ FM A h h1) := by
  obtain ⟨T, c0, tA, aT, hc0, pT⟩ := Q.2.1
  have rm := room c0 ⟨T, tA, aT⟩
  refine qV_of ?_
  obtain ⟨z2432, hz2432, ez2432⟩ := Q.2.2.1.2.2.1
  have ez2432 : z2432.toInt = ((s.2.2.1.length : Nat) : Int) := ez2432
  have mz2432 := qm_lenC Q
  have mz2432 : s.2.2.1.length ≤ 14 := mz2432
  refine y_same (i := .aload_n 0) (len := 1) (r := (0, 0, 0, 0)) (pc' := 1) (ls' := [some (.inl (some A)), some (zi xx), some (zi xy)]) (st' := [.inl (some A)]) (by decide +kernel) (fun k q => by cases q) rfl ?_
  refine y_same (i := .aload_n 0) (len := 1) (r := (0, 0, 0, 0)) (pc' := 2) (ls' := [some (.inl (some A)), some (zi xx), some (zi xy)]) (st' := [.inl (some A), .inl (some A)]) (by decide +kernel) (fun k q => by cases q) rfl ?_
  refine y_ic (c := 2) (len := 1) (r := (0, 0, 0, 0)) (by decide +kernel) (by decide) (fun y2433 hy2433 => ?_)
  refine y_ial (i := 2) (len := 1) (r := (0, 0, 0, 0)) (by decide +kernel) Q.1 tA aT (by omega) hz2432 ?_
  refine y_cI (i := .invokestatic 259) (len := 3) (r := (1, 199, 12, 1654)) (nL := 1) (k := 1) (n := 1) (hs := []) (args := [zi z2432]) (rest := [.inl (some A)]) (l0 := [some (zi z2432)]) (by decide +kernel) (Or.inl ⟨_, rfl⟩) rfl rfl rfl rfl (Nat.le_of_ble_eq_true rfl) rfl rfl (qI_le (by omega) (e_claimIn (d := 0) (by omega) (by omega))) (fun y2434 qy2434 hRy2434 => ?_)
  obtain ⟨rfl, hy2434⟩ := hRy2434
  refine y_ic (c := 1) (len := 1) (r := (0, 0, 0, 0)) (by decide +kernel) (by decide) (fun y2435 hy2435 => ?_)
  refine y_same (i := .iload_n 1) (len := 1) (r := (0, 0, 0, 0)) (pc' := 9) (ls' := [some (.inl (some A)), some (zi xx), some (zi xy)]) (st' := [zi xx, zi y2435, zi y2434, .inl (some A)]) (by decide +kernel) (fun k q => by cases q) rfl ?_
  refine y_same (i := .iload_n 2) (len := 1) (r := (0, 0, 0, 0)) (pc' := 10) (ls' := [some (.inl (some A)), some (zi xx), some (zi xy)]) (st' := [zi xy, zi xx, zi y2435, zi y2434, .inl (some A)]) (by decide +kernel) (fun k q => by cases q) rfl ?_
  refine y_ic (c := 0) (len := 1) (r := (0, 0, 0, 0)) (by decide +kernel) (by decide) (fun y2436 hy2436 => ?_)
  refine y_cV (i := .invokestatic 151) (len := 3) (r := (1, 179, 12, 1549)) (nL := 6) (k := 0) (n := 6) (hs := []) (args := [.inl (some A), zi y2434, zi y2435, zi xx, zi xy, zi y2436]) (rest := []) (l0 := [some (.inl (some A)), some (zi y2434), some (zi y2435), some (zi xx), some (zi xy), some (zi y2436)]) (by decide +kernel) (Or.inl ⟨_, rfl⟩) rfl rfl rfl rfl (Nat.le_of_ble_eq_true rfl) rfl rfl (qV_le (by omega) (m_fur (d := 0) (p := 136 + 4 * s.2.2.1.length) (i := (1, x, y, 0)) Q.1 Q.2.1 (by omega) (by omega) (by omega) (okCl_s hx hy).1 (by omega) (by omega) (by omega) (by omega))) (fun h2437 hR2437 => ?_)
  obtain ⟨hg2437, qd, F2437⟩ := hR2437
  refine y_same (i := .aload_n 0) (len := 1) (r := (0, 0, 0, 0)) (pc' := 15) (ls' := [some (.inl (some A)), some (zi xx), some (zi xy)]) (st' := [.inl (some A)]) (by decide +kernel) (fun k q => by cases q) rfl ?_
  refine y_ic (c := 2) (len := 1) (r := (0, 0, 0, 0)) (by decide +kernel) (by decide) (fun y2438 hy2438 => ?_)
  refine y_same (i := .dup2) (len := 1) (r := (0, 0, 0, 0)) (pc' := 17) (ls' := [some (.inl (some A)), some (zi xx), some (zi xy)]) (st' := [zi y2438, .inl (some A), zi y2438, .inl (some A)]) (by decide +kernel) (fun k q => by cases q) rfl ?_
  have hv2439 := (F2437 A 2 (by omega)).trans hz2432
  refine y_ial (i := 2) (len := 1) (r := (0, 0, 0, 0)) (by decide +kernel) hg2437 tA aT (by omega) hv2439 ?_
  refine y_ic (c := 1) (len := 1) (r := (0, 0, 0, 0)) (by decide +kernel) (by decide) (fun y2440 hy2440 => ?_)
  refine y_add (len := 1) (r := (0, 0, 0, 0)) (by decide +kernel) (by omega) (by omega) (fun y2441 hy2441 => ?_)
  refine y_ias (i := 2) (len := 1) (r := (0, 0, 0, 0)) (by decide +kernel) hg2437 tA aT pT (by omega) (by omega) (srA (by omega)) (by omega) (by omega) (fun h2442 hg2442 hl2442 hs2442 ho2442 => ?_)
  refine y_rV (len := 1) (r := (0, 0, 0, 0)) (nL := 3) (n9 := 3) (hs := []) (by decide +kernel) rfl ?_
  obtain ⟨a, b, c, e, f, g, i⟩ := Q.2.2.1
  have lL := qm_lenL Q
  have lR := qm_lenR Q
  refine ⟨⟨hg2442, Q.2.1, ⟨ci_up a (((ho2442 A 0 (by omega)).trans (F2437 A 0 (by omega)))), ci_up b (((ho2442 A 1 (by omega)).trans (F2437 A 1 (by omega)))), ⟨_, hs2442, ?_⟩, fun j i hj => qdM_up (e j i hj) (fun w hw => ?_), fun j i hj => qdM_up (f j i hj) (fun w hw => ?_), fun j i hj => ?_, dC_up2 i (fun j hj => ((ho2442 A (3 + j) (by omega)).trans (F2437 A (3 + j) (by omega))))⟩, Q.2.2.2.1, Q.2.2.2.2.1, fun p m => ?_, Q.2.2.2.2.2.2⟩, fun k j hC => ((ho2442 k j (by omega)).trans (F2437 k j (by omega)))⟩
  · show _ = (((s.2.2.1 ++ [(1, x, y, 0)]).length : Nat) : Int)
    rw [List.length_append]
    show _ = ((s.2.2.1.length + 1 : Nat) : Int)
    omega
  · have hj9 := (List.getElem?_eq_some_iff.mp hj).1
    have hj9 : j < s.1.length := hj9
    exact ((ho2442 A (24 + 4 * j + w) (by omega)).trans (F2437 A (24 + 4 * j + w) (by omega)))
  · have hj9 := (List.getElem?_eq_some_iff.mp hj).1
    have hj9 : j < s.2.1.length := hj9
    exact ((ho2442 A (80 + 4 * j + w) (by omega)).trans (F2437 A (80 + 4 * j + w) (by omega)))
  · have hj : (s.2.2.1 ++ [(1, x, y, 0)])[j]? = some i := hj
    rcases Nat.lt_or_ge j s.2.2.1.length with q | q
    · rw [List.getElem?_append_left q] at hj
      exact qdM_up (g j i hj) (fun w hw => ((ho2442 A (136 + 4 * j + w) (by omega)).trans (F2437 A (136 + 4 * j + w) (by omega))))
    · rw [List.getElem?_append_right q] at hj
      rcases Nat.eq_or_lt_of_le q with e1 | e1
      · rw [← e1, Nat.sub_self] at hj
        cases hj
        rw [← e1]
        exact qdM_up qd (fun w hw => (ho2442 A (136 + 4 * s.2.2.1.length + w) (by omega)))
      · rw [List.getElem?_eq_none (by simp only [List.length_cons, List.length_nil]; omega)] at hj
        cases hj
  · rcases List.mem_append.mp m with m | m
    · exact Q.2.2.2.2.2.1 p m
    · rw [List.mem_singleton.mp m]
      exact okCl_s hx hy
