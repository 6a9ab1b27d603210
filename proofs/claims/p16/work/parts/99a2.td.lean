/-! told -/
def bI_ (i : it4) : Nat := (2 ^ i.2.1.toNat ||| 2 ^ i.2.2.1.toNat) ||| 2 ^ i.2.2.2.toNat
def bC_ (i : it4) : Nat := 2 ^ i.2.1.toNat ||| 2 ^ i.2.2.1.toNat
def mS_ (s : Nat) (l : List it4) : Nat := l.foldl (fun s i => s ||| bI_ i) s
def mC_ (s : Nat) (l : List it4) : Nat := l.foldl (fun s i => s ||| bC_ i) s
theorem or64 {a b : Nat} (ha : a < 64) (hb : b < 64) : a ||| b < 64 := Nat.or_lt_two_pow (n := 6) ha hb
theorem p64 : ∀ k : Nat, k < 6 → 2 ^ k < 64 := by decide
theorem bI_64 {i : it4} (ok : okI i) : bI_ i < 64 := by
  unfold okI at ok
  exact or64 (or64 (p64 _ (by omega)) (p64 _ (by omega))) (p64 _ (by omega))
theorem bC_64 {i : it4} (ok : okI i) : bC_ i < 64 := by
  unfold okI at ok
  exact or64 (p64 _ (by omega)) (p64 _ (by omega))
theorem sh_tab : ∀ k : Nat, k < 6 → ((1 : Int32) <<< (Int32.ofInt (k : Int) &&& 31)) = Int32.ofInt ((2 ^ k : Nat) : Int) := by decide +kernel
theorem or_tab : ∀ a : Nat, a < 64 → ∀ b : Nat, b < 64 → (Int32.ofInt (a : Int) ||| Int32.ofInt (b : Int)) = Int32.ofInt ((a ||| b : Nat) : Int) := by decide +kernel
theorem an_tab : ∀ a : Nat, a < 64 → (Int32.ofInt (a : Int) &&& (-2 : Int32)) = Int32.ofInt ((a &&& 62 : Nat) : Int) := by decide +kernel
theorem shl_v {c y : Int32} {n : Int} (hc : c.toInt = 1) (hy : y.toInt = n) (h0 : 0 ≤ n) (h5 : n ≤ 5) : c <<< (y &&& 31) = Int32.ofInt ((2 ^ n.toNat : Nat) : Int) := by
  have e1 : c = 1 := ofI (w := 1) hc rfl
  have e2 : y = Int32.ofInt ((n.toNat : Nat) : Int) := i32_of (by omega)
  rw [e1, e2]
  exact sh_tab _ (by omega)
theorem or_v {a b : Int32} {m n : Nat} (ha : a = Int32.ofInt (m : Int)) (hb : b = Int32.ofInt (n : Int)) (hm : m < 64) (hn : n < 64) : a ||| b = Int32.ofInt ((m ||| n : Nat) : Int) := by
  rw [ha, hb]
  exact or_tab m hm n hn
theorem mS_64 {l : List it4} : ∀ {s : Nat}, s < 64 → (∀ i ∈ l, okI i) → mS_ s l < 64 := by
  induction l with
  | nil => intro s hs _; exact hs
  | cons i l ih => intro s hs ok; exact ih (or64 hs (bI_64 (ok i List.mem_cons_self))) (fun j hj => ok j (List.mem_cons_of_mem _ hj))
theorem mC_64 {l : List it4} : ∀ {s : Nat}, s < 64 → (∀ i ∈ l, okI i) → mC_ s l < 64 := by
  induction l with
  | nil => intro s hs _; exact hs
  | cons i l ih => intro s hs ok; exact ih (or64 hs (bC_64 (ok i List.mem_cons_self))) (fun j hj => ok j (List.mem_cons_of_mem _ hj))
theorem mS_or {l : List it4} : ∀ {s : Nat}, mS_ s l = s ||| mS_ 0 l := by
  induction l with
  | nil => intro s; exact (Nat.or_zero s).symm
  | cons i l ih =>
    intro s
    show mS_ (s ||| bI_ i) l = s ||| mS_ (0 ||| bI_ i) l
    rw [ih (s := s ||| bI_ i), ih (s := 0 ||| bI_ i), Nat.zero_or, Nat.or_assoc]
theorem mC_or {l : List it4} : ∀ {s : Nat}, mC_ s l = s ||| mC_ 0 l := by
  induction l with
  | nil => intro s; exact (Nat.or_zero s).symm
  | cons i l ih =>
    intro s
    show mC_ (s ||| bC_ i) l = s ||| mC_ (0 ||| bC_ i) l
    rw [ih (s := s ||| bC_ i), ih (s := 0 ||| bC_ i), Nat.zero_or, Nat.or_assoc]
theorem mS_mC {l : List it4} : czl l → mS_ 0 l &&& 62 = mC_ 0 l &&& 62 := by
  induction l with
  | nil => intro _; rfl
  | cons i l ih =>
    intro c
    have hi := c i List.mem_cons_self
    show mS_ (0 ||| bI_ i) l &&& 62 = mC_ (0 ||| bC_ i) l &&& 62
    rw [Nat.zero_or, Nat.zero_or, mS_or, mC_or, Nat.and_or_distrib_right, Nat.and_or_distrib_right, ih (fun j hj => c j (List.mem_cons_of_mem _ hj))]
    have e : bI_ i &&& 62 = bC_ i &&& 62 := by
      unfold bI_ bC_
      rw [hi, Nat.and_or_distrib_right]
      show _ ||| (1 &&& 62) = _
      rw [show (1 &&& 62 : Nat) = 0 from rfl, Nat.or_zero]
    rw [e]
def letN (b : bsT) : Nat := (((mS_ 0 b.1.1 ||| mS_ 0 b.1.2) ||| mS_ 0 b.2.1) ||| mS_ 0 b.2.2) &&& 62
theorem letN_eq {b : bsT} (c : cz1 b) : mC_ (mS_ (mC_ (mS_ 0 b.1.1) b.1.2) b.2.1) b.2.2 &&& 62 = letN b := by
  unfold letN
  rw [mC_or (l := b.2.2), mS_or (l := b.2.1), mC_or (l := b.1.2)]
  rw [Nat.and_or_distrib_right, Nat.and_or_distrib_right, Nat.and_or_distrib_right, Nat.and_or_distrib_right, Nat.and_or_distrib_right, Nat.and_or_distrib_right, mS_mC c.1, mS_mC c.2]
def pop6 (n : Nat) : Nat := n % 2 + n / 2 % 2 + n / 4 % 2 + n / 8 % 2 + n / 16 % 2 + n / 32 % 2
theorem ok_mem {l : List it4} (ok : ∀ (j : Nat) (i : it4), l[j]? = some i → okI i) : ∀ i ∈ l, okI i := fun i hi => by
  obtain ⟨j, hj⟩ := List.getElem?_of_mem hi
  exact ok j i hj
theorem men5_l {d t RA IA : Nat} {τ : List Nat} {h : zh} {l : List it4} (hg : hG τ h) (tRA : τ[RA]? = some 1002) (tIA : τ[IA]? = some 1005) (pA : hsl h RA 0 = some (.inl (some IA))) (r : rwC h RA IA l) (ok : ∀ (j : Nat) (i : it4), l[j]? = some i → okI i) : ∀ (n i s : Nat) (xi xb : Int32), xi.toInt = (i : Int) → xb = Int32.ofInt (s : Int) → s < 64 → i ≤ l.length → l.length ≤ i + n → qX (d + 1) 73 4 [some (.inl (some RA)), some (zi xb), some (zi xi)] [] h t (rI (fun y h1 => h = h1 ∧ y = Int32.ofInt ((mS_ s (l.drop i) : Nat) : Int)) t) := by
  obtain ⟨xl, hl, el⟩ := r.1
  obtain ⟨x9, e9, l9, u9⟩ := g_int (i := 1) (lo := 0) (hi := 5) hg tRA aw1002 (by decide) rfl
  have e8 := hl.symm.trans e9
  cases e8
  intro n
  induction n with
  | zero =>
    intro i s xi xb hxi hxb hs hi hn
    refine y_same (i := .iload_n 2) (len := 1) (r := (0, 0, 0, 0)) (pc' := 5) (ls' := [some (.inl (some RA)), some (zi xb), some (zi xi)]) (st' := [zi xi]) (by decide +kernel) (fun k q => by cases q) rfl ?_
    refine y_same (i := .aload_n 0) (len := 1) (r := (0, 0, 0, 0)) (pc' := 6) (ls' := [some (.inl (some RA)), some (zi xb), some (zi xi)]) (st' := [.inl (some RA), zi xi]) (by decide +kernel) (fun k q => by cases q) rfl ?_
    refine y_get (j := 9) (len := 3) (r := (6, 1, 0, 164)) (by decide +kernel) hg tRA aw1002 rfl rfl hl ?_
    refine y_cT (c := .ge) (off := 38) (pc' := 47) (len := 3) (r := (0, 0, 0, 0)) (by decide +kernel) (acmpT (c := .ge) (by show _ ≤ _; omega)) (by decide +kernel) ?_
    refine y_same (i := .iload_n 1) (len := 1) (r := (0, 0, 0, 0)) (pc' := 48) (ls' := [some (.inl (some RA)), some (zi xb), some (zi xi)]) (st' := [zi xb]) (by decide +kernel) (fun k q => by cases q) rfl ?_
    refine y_rI (len := 1) (r := (0, 0, 0, 0)) (nL := 3) (k := 1) (n9 := 1) (hs := []) (by decide +kernel) rfl rfl ?_
    rw [List.drop_of_length_le (by omega)]
    exact ⟨rfl, hxb⟩
  | succ n ih =>
    intro i s xi xb hxi hxb hs hi hn
    rcases Nat.lt_or_ge i l.length with q | q
    · obtain ⟨ik, hk⟩ : ∃ ik, l[i]? = some ik := ⟨_, List.getElem?_eq_getElem q⟩
      have okk := ok i ik hk
      have okk2 := okk
      unfold okI at okk2
      refine y_same (i := .iload_n 2) (len := 1) (r := (0, 0, 0, 0)) (pc' := 5) (ls' := [some (.inl (some RA)), some (zi xb), some (zi xi)]) (st' := [zi xi]) (by decide +kernel) (fun k q => by cases q) rfl ?_
      refine y_same (i := .aload_n 0) (len := 1) (r := (0, 0, 0, 0)) (pc' := 6) (ls' := [some (.inl (some RA)), some (zi xb), some (zi xi)]) (st' := [.inl (some RA), zi xi]) (by decide +kernel) (fun k q => by cases q) rfl ?_
      refine y_get (j := 9) (len := 3) (r := (6, 1, 0, 164)) (by decide +kernel) hg tRA aw1002 rfl rfl hl ?_
      refine y_cF (c := .ge) (off := 38) (len := 3) (r := (0, 0, 0, 0)) (by decide +kernel) (acmpF (c := .ge) (by show _ < _; omega)) ?_
      refine y_same (i := .iload_n 1) (len := 1) (r := (0, 0, 0, 0)) (pc' := 13) (ls' := [some (.inl (some RA)), some (zi xb), some (zi xi)]) (st' := [zi xb]) (by decide +kernel) (fun k q => by cases q) rfl ?_
      refine y_ic (c := 1) (len := 1) (r := (0, 0, 0, 0)) (by decide +kernel) (by decide) (fun y3108 hy3108 => ?_)
      refine y_same (i := .aload_n 0) (len := 1) (r := (0, 0, 0, 0)) (pc' := 15) (ls' := [some (.inl (some RA)), some (zi xb), some (zi xi)]) (st' := [.inl (some RA), zi y3108, zi xb]) (by decide +kernel) (fun k q => by cases q) rfl ?_
      refine y_same (i := .iload_n 2) (len := 1) (r := (0, 0, 0, 0)) (pc' := 16) (ls' := [some (.inl (some RA)), some (zi xb), some (zi xi)]) (st' := [zi xi, .inl (some RA), zi y3108, zi xb]) (by decide +kernel) (fun k q => by cases q) rfl ?_
      refine y_ic (c := 1) (len := 1) (r := (0, 0, 0, 0)) (by decide +kernel) (by decide) (fun y3109 hy3109 => ?_)
      refine y_cI (i := .invokevirtual 29) (len := 3) (r := (0, 64, 6, 659)) (nL := 3) (k := 1) (n := 3) (hs := []) (args := [.inl (some RA), zi xi, zi y3109]) (rest := [zi y3108, zi xb]) (l0 := [some (.inl (some RA)), some (zi xi), some (zi y3109)]) (by decide +kernel) (Or.inr (Or.inl ⟨_, rfl⟩)) rfl rfl rfl rfl (Nat.le_of_ble_eq_true rfl) (zO hg tRA aw1002 rfl) rfl (qI_le (by omega) (e_tell5 (d := 0) (RA := RA) (IA := IA) (w := 1) hg tRA tIA pA r hxi hk (ok i ik hk) (by omega) (by omega))) (fun y3110 qy3110 hRy3110 => ?_)
      obtain ⟨rfl, ey3110⟩ := hRy3110
      refine y_bp (i := .ishl) (f := fun x y => x <<< (y &&& 31)) (len := 1) (r := (0, 0, 0, 0)) (by decide +kernel) rfl rfl (fun y3111 hy3111 => ?_)
      have hy3111 : y3111 = y3108 <<< (y3110 &&& 31) := hy3111
      refine y_ic (c := 1) (len := 1) (r := (0, 0, 0, 0)) (by decide +kernel) (by decide) (fun y3112 hy3112 => ?_)
      refine y_same (i := .aload_n 0) (len := 1) (r := (0, 0, 0, 0)) (pc' := 23) (ls' := [some (.inl (some RA)), some (zi xb), some (zi xi)]) (st' := [.inl (some RA), zi y3112, zi y3111, zi xb]) (by decide +kernel) (fun k q => by cases q) rfl ?_
      refine y_same (i := .iload_n 2) (len := 1) (r := (0, 0, 0, 0)) (pc' := 24) (ls' := [some (.inl (some RA)), some (zi xb), some (zi xi)]) (st' := [zi xi, .inl (some RA), zi y3112, zi y3111, zi xb]) (by decide +kernel) (fun k q => by cases q) rfl ?_
      refine y_ic (c := 2) (len := 1) (r := (0, 0, 0, 0)) (by decide +kernel) (by decide) (fun y3113 hy3113 => ?_)
      refine y_cI (i := .invokevirtual 29) (len := 3) (r := (0, 64, 6, 659)) (nL := 3) (k := 1) (n := 3) (hs := []) (args := [.inl (some RA), zi xi, zi y3113]) (rest := [zi y3112, zi y3111, zi xb]) (l0 := [some (.inl (some RA)), some (zi xi), some (zi y3113)]) (by decide +kernel) (Or.inr (Or.inl ⟨_, rfl⟩)) rfl rfl rfl rfl (Nat.le_of_ble_eq_true rfl) (zO hg tRA aw1002 rfl) rfl (qI_le (by omega) (e_tell5 (d := 0) (RA := RA) (IA := IA) (w := 2) hg tRA tIA pA r hxi hk (ok i ik hk) (by omega) (by omega))) (fun y3114 qy3114 hRy3114 => ?_)
      obtain ⟨rfl, ey3114⟩ := hRy3114
      refine y_bp (i := .ishl) (f := fun x y => x <<< (y &&& 31)) (len := 1) (r := (0, 0, 0, 0)) (by decide +kernel) rfl rfl (fun y3115 hy3115 => ?_)
      have hy3115 : y3115 = y3112 <<< (y3114 &&& 31) := hy3115
      refine y_bp (i := .ior) (f := fun x y => x ||| y) (len := 1) (r := (0, 0, 0, 0)) (by decide +kernel) rfl rfl (fun y3116 hy3116 => ?_)
      have hy3116 : y3116 = y3111 ||| y3115 := hy3116
      refine y_ic (c := 1) (len := 1) (r := (0, 0, 0, 0)) (by decide +kernel) (by decide) (fun y3117 hy3117 => ?_)
      refine y_same (i := .aload_n 0) (len := 1) (r := (0, 0, 0, 0)) (pc' := 32) (ls' := [some (.inl (some RA)), some (zi xb), some (zi xi)]) (st' := [.inl (some RA), zi y3117, zi y3116, zi xb]) (by decide +kernel) (fun k q => by cases q) rfl ?_
      refine y_same (i := .iload_n 2) (len := 1) (r := (0, 0, 0, 0)) (pc' := 33) (ls' := [some (.inl (some RA)), some (zi xb), some (zi xi)]) (st' := [zi xi, .inl (some RA), zi y3117, zi y3116, zi xb]) (by decide +kernel) (fun k q => by cases q) rfl ?_
      refine y_ic (c := 3) (len := 1) (r := (0, 0, 0, 0)) (by decide +kernel) (by decide) (fun y3118 hy3118 => ?_)
      refine y_cI (i := .invokevirtual 29) (len := 3) (r := (0, 64, 6, 659)) (nL := 3) (k := 1) (n := 3) (hs := []) (args := [.inl (some RA), zi xi, zi y3118]) (rest := [zi y3117, zi y3116, zi xb]) (l0 := [some (.inl (some RA)), some (zi xi), some (zi y3118)]) (by decide +kernel) (Or.inr (Or.inl ⟨_, rfl⟩)) rfl rfl rfl rfl (Nat.le_of_ble_eq_true rfl) (zO hg tRA aw1002 rfl) rfl (qI_le (by omega) (e_tell5 (d := 0) (RA := RA) (IA := IA) (w := 3) hg tRA tIA pA r hxi hk (ok i ik hk) (by omega) (by omega))) (fun y3119 qy3119 hRy3119 => ?_)
      obtain ⟨rfl, ey3119⟩ := hRy3119
      refine y_bp (i := .ishl) (f := fun x y => x <<< (y &&& 31)) (len := 1) (r := (0, 0, 0, 0)) (by decide +kernel) rfl rfl (fun y3120 hy3120 => ?_)
      have hy3120 : y3120 = y3117 <<< (y3119 &&& 31) := hy3120
      refine y_bp (i := .ior) (f := fun x y => x ||| y) (len := 1) (r := (0, 0, 0, 0)) (by decide +kernel) rfl rfl (fun y3121 hy3121 => ?_)
      have hy3121 : y3121 = y3116 ||| y3120 := hy3121
      refine y_bp (i := .ior) (f := fun x y => x ||| y) (len := 1) (r := (0, 0, 0, 0)) (by decide +kernel) rfl rfl (fun y3122 hy3122 => ?_)
      have hy3122 : y3122 = xb ||| y3121 := hy3122
      refine y_same (i := .istore_n 1) (len := 1) (r := (0, 0, 0, 0)) (pc' := 41) (ls' := [some (.inl (some RA)), some (zi y3122), some (zi xi)]) (st' := []) (by decide +kernel) (fun k q => by cases q) rfl ?_
      refine y_inc (j := 2) (a := xi) (c := 1) (ls' := fun v => [some (.inl (some RA)), some (zi y3122), some v]) (len := 3) (r := (0, 0, 0, 0)) (by decide +kernel) rfl (fun _ => rfl) (by decide) (by omega) (by omega) (fun y3123 hy3123 => ?_)
      show qX (d + 1) 73 44 [some (.inl (some RA)), some (zi y3122), some (zi y3123)] [] h t _
      refine y_goto (off := (-40)) (pc' := 4) (len := 3) (r := (0, 0, 0, 0)) (by decide +kernel) (by decide +kernel) ?_
      have s1 := shl_v (c := y3108) hy3108 ey3110 (by show 0 ≤ ik.2.1; omega) (by show ik.2.1 ≤ 5; omega)
      have s2 := shl_v (c := y3112) hy3112 ey3114 (by show 0 ≤ ik.2.2.1; omega) (by show ik.2.2.1 ≤ 5; omega)
      have s3 := shl_v (c := y3117) hy3117 ey3119 (by show 0 ≤ ik.2.2.2; omega) (by show ik.2.2.2 ≤ 5; omega)
      rw [← hy3111] at s1
      rw [← hy3115] at s2
      rw [← hy3120] at s3
      have b1 : 2 ^ (cmp_ ik 1).toNat < 64 := p64 _ (by show ik.2.1.toNat < 6; omega)
      have b2 : 2 ^ (cmp_ ik 2).toNat < 64 := p64 _ (by show ik.2.2.1.toNat < 6; omega)
      have b3 : 2 ^ (cmp_ ik 3).toNat < 64 := p64 _ (by show ik.2.2.2.toNat < 6; omega)
      have o1 := or_v s1 s2 b1 b2
      rw [← hy3116] at o1
      have o2 := or_v o1 s3 (or64 b1 b2) b3
      rw [← hy3121] at o2
      have o3 := or_v hxb o2 hs (or64 (or64 b1 b2) b3)
      rw [← hy3122] at o3
      have e9 : l.drop i = ik :: l.drop (i + 1) := by
        rw [List.drop_eq_getElem_cons q]
        congr 1
        exact Option.some.inj ((List.getElem?_eq_getElem q).symm.trans hk)
      rw [e9]
      exact ih (i + 1) (s ||| bI_ ik) y3123 y3122 (by omega) o3 (or64 hs (bI_64 okk)) (by omega) (by omega)
    ·
      refine y_same (i := .iload_n 2) (len := 1) (r := (0, 0, 0, 0)) (pc' := 5) (ls' := [some (.inl (some RA)), some (zi xb), some (zi xi)]) (st' := [zi xi]) (by decide +kernel) (fun k q => by cases q) rfl ?_
      refine y_same (i := .aload_n 0) (len := 1) (r := (0, 0, 0, 0)) (pc' := 6) (ls' := [some (.inl (some RA)), some (zi xb), some (zi xi)]) (st' := [.inl (some RA), zi xi]) (by decide +kernel) (fun k q => by cases q) rfl ?_
      refine y_get (j := 9) (len := 3) (r := (6, 1, 0, 164)) (by decide +kernel) hg tRA aw1002 rfl rfl hl ?_
      refine y_cT (c := .ge) (off := 38) (pc' := 47) (len := 3) (r := (0, 0, 0, 0)) (by decide +kernel) (acmpT (c := .ge) (by show _ ≤ _; omega)) (by decide +kernel) ?_
      refine y_same (i := .iload_n 1) (len := 1) (r := (0, 0, 0, 0)) (pc' := 48) (ls' := [some (.inl (some RA)), some (zi xb), some (zi xi)]) (st' := [zi xb]) (by decide +kernel) (fun k q => by cases q) rfl ?_
      refine y_rI (len := 1) (r := (0, 0, 0, 0)) (nL := 3) (k := 1) (n9 := 1) (hs := []) (by decide +kernel) rfl rfl ?_
      rw [List.drop_of_length_le (by omega)]
      exact ⟨rfl, hxb⟩
theorem e_men5 {d t RA IA : Nat} {τ : List Nat} {h : zh} {l : List it4} (hg : hG τ h) (tRA : τ[RA]? = some 1002) (tIA : τ[IA]? = some 1005) (pA : hsl h RA 0 = some (.inl (some IA))) (r : rwC h RA IA l) (ok : ∀ (j : Nat) (i : it4), l[j]? = some i → okI i) : qI (d + 2) 73 [some (.inl (some RA)), none, none] h t (fun y h1 => h = h1 ∧ y = Int32.ofInt ((mS_ 0 l : Nat) : Int)) := by
  refine qI_of ?_
  refine y_ic (c := 0) (len := 1) (r := (0, 0, 0, 0)) (by decide +kernel) (by decide) (fun y3124 hy3124 => ?_)
  refine y_same (i := .istore_n 1) (len := 1) (r := (0, 0, 0, 0)) (pc' := 2) (ls' := [some (.inl (some RA)), some (zi y3124), none]) (st' := []) (by decide +kernel) (fun k q => by cases q) rfl ?_
  refine y_ic (c := 0) (len := 1) (r := (0, 0, 0, 0)) (by decide +kernel) (by decide) (fun y3125 hy3125 => ?_)
  refine y_same (i := .istore_n 2) (len := 1) (r := (0, 0, 0, 0)) (pc' := 4) (ls' := [some (.inl (some RA)), some (zi y3124), some (zi y3125)]) (st' := []) (by decide +kernel) (fun k q => by cases q) rfl ?_
  exact men5_l hg tRA tIA pA r ok l.length 0 0 y3125 y3124 (by omega) (i32_of (by omega)) (by omega) (by omega) (by omega)
theorem men6_l {d t RA IA : Nat} {τ : List Nat} {h : zh} {l : List it4} (hg : hG τ h) (tRA : τ[RA]? = some 1003) (tIA : τ[IA]? = some 1006) (pA : hsl h RA 0 = some (.inl (some IA))) (r : rwC h RA IA l) (ok : ∀ (j : Nat) (i : it4), l[j]? = some i → okI i) : ∀ (n i s : Nat) (xi xb : Int32), xi.toInt = (i : Int) → xb = Int32.ofInt (s : Int) → s < 64 → i ≤ l.length → l.length ≤ i + n → qX (d + 1) 73 4 [some (.inl (some RA)), some (zi xb), some (zi xi)] [] h t (rI (fun y h1 => h = h1 ∧ y = Int32.ofInt ((mS_ s (l.drop i) : Nat) : Int)) t) := by
  obtain ⟨xl, hl, el⟩ := r.1
  obtain ⟨x9, e9, l9, u9⟩ := g_int (i := 1) (lo := 0) (hi := 6) hg tRA aw1003 (by decide) rfl
  have e8 := hl.symm.trans e9
  cases e8
  intro n
  induction n with
  | zero =>
    intro i s xi xb hxi hxb hs hi hn
    refine y_same (i := .iload_n 2) (len := 1) (r := (0, 0, 0, 0)) (pc' := 5) (ls' := [some (.inl (some RA)), some (zi xb), some (zi xi)]) (st' := [zi xi]) (by decide +kernel) (fun k q => by cases q) rfl ?_
    refine y_same (i := .aload_n 0) (len := 1) (r := (0, 0, 0, 0)) (pc' := 6) (ls' := [some (.inl (some RA)), some (zi xb), some (zi xi)]) (st' := [.inl (some RA), zi xi]) (by decide +kernel) (fun k q => by cases q) rfl ?_
    refine y_get (j := 9) (len := 3) (r := (6, 1, 0, 164)) (by decide +kernel) hg tRA aw1003 rfl rfl hl ?_
    refine y_cT (c := .ge) (off := 38) (pc' := 47) (len := 3) (r := (0, 0, 0, 0)) (by decide +kernel) (acmpT (c := .ge) (by show _ ≤ _; omega)) (by decide +kernel) ?_
    refine y_same (i := .iload_n 1) (len := 1) (r := (0, 0, 0, 0)) (pc' := 48) (ls' := [some (.inl (some RA)), some (zi xb), some (zi xi)]) (st' := [zi xb]) (by decide +kernel) (fun k q => by cases q) rfl ?_
    refine y_rI (len := 1) (r := (0, 0, 0, 0)) (nL := 3) (k := 1) (n9 := 1) (hs := []) (by decide +kernel) rfl rfl ?_
    rw [List.drop_of_length_le (by omega)]
    exact ⟨rfl, hxb⟩
  | succ n ih =>
    intro i s xi xb hxi hxb hs hi hn
    rcases Nat.lt_or_ge i l.length with q | q
    · obtain ⟨ik, hk⟩ : ∃ ik, l[i]? = some ik := ⟨_, List.getElem?_eq_getElem q⟩
      have okk := ok i ik hk
      have okk2 := okk
      unfold okI at okk2
      refine y_same (i := .iload_n 2) (len := 1) (r := (0, 0, 0, 0)) (pc' := 5) (ls' := [some (.inl (some RA)), some (zi xb), some (zi xi)]) (st' := [zi xi]) (by decide +kernel) (fun k q => by cases q) rfl ?_
      refine y_same (i := .aload_n 0) (len := 1) (r := (0, 0, 0, 0)) (pc' := 6) (ls' := [some (.inl (some RA)), some (zi xb), some (zi xi)]) (st' := [.inl (some RA), zi xi]) (by decide +kernel) (fun k q => by cases q) rfl ?_
      refine y_get (j := 9) (len := 3) (r := (6, 1, 0, 164)) (by decide +kernel) hg tRA aw1003 rfl rfl hl ?_
      refine y_cF (c := .ge) (off := 38) (len := 3) (r := (0, 0, 0, 0)) (by decide +kernel) (acmpF (c := .ge) (by show _ < _; omega)) ?_
      refine y_same (i := .iload_n 1) (len := 1) (r := (0, 0, 0, 0)) (pc' := 13) (ls' := [some (.inl (some RA)), some (zi xb), some (zi xi)]) (st' := [zi xb]) (by decide +kernel) (fun k q => by cases q) rfl ?_
      refine y_ic (c := 1) (len := 1) (r := (0, 0, 0, 0)) (by decide +kernel) (by decide) (fun y3126 hy3126 => ?_)
      refine y_same (i := .aload_n 0) (len := 1) (r := (0, 0, 0, 0)) (pc' := 15) (ls' := [some (.inl (some RA)), some (zi xb), some (zi xi)]) (st' := [.inl (some RA), zi y3126, zi xb]) (by decide +kernel) (fun k q => by cases q) rfl ?_
      refine y_same (i := .iload_n 2) (len := 1) (r := (0, 0, 0, 0)) (pc' := 16) (ls' := [some (.inl (some RA)), some (zi xb), some (zi xi)]) (st' := [zi xi, .inl (some RA), zi y3126, zi xb]) (by decide +kernel) (fun k q => by cases q) rfl ?_
      refine y_ic (c := 1) (len := 1) (r := (0, 0, 0, 0)) (by decide +kernel) (by decide) (fun y3127 hy3127 => ?_)
      refine y_cI (i := .invokevirtual 29) (len := 3) (r := (0, 64, 6, 659)) (nL := 3) (k := 1) (n := 3) (hs := []) (args := [.inl (some RA), zi xi, zi y3127]) (rest := [zi y3126, zi xb]) (l0 := [some (.inl (some RA)), some (zi xi), some (zi y3127)]) (by decide +kernel) (Or.inr (Or.inl ⟨_, rfl⟩)) rfl rfl rfl rfl (Nat.le_of_ble_eq_true rfl) (zO hg tRA aw1003 rfl) rfl (qI_le (by omega) (e_tell6 (d := 0) (RA := RA) (IA := IA) (w := 1) hg tRA tIA pA r hxi hk (ok i ik hk) (by omega) (by omega))) (fun y3128 qy3128 hRy3128 => ?_)
      obtain ⟨rfl, ey3128⟩ := hRy3128
      refine y_bp (i := .ishl) (f := fun x y => x <<< (y &&& 31)) (len := 1) (r := (0, 0, 0, 0)) (by decide +kernel) rfl rfl (fun y3129 hy3129 => ?_)
      have hy3129 : y3129 = y3126 <<< (y3128 &&& 31) := hy3129
      refine y_ic (c := 1) (len := 1) (r := (0, 0, 0, 0)) (by decide +kernel) (by decide) (fun y3130 hy3130 => ?_)
      refine y_same (i := .aload_n 0) (len := 1) (r := (0, 0, 0, 0)) (pc' := 23) (ls' := [some (.inl (some RA)), some (zi xb), some (zi xi)]) (st' := [.inl (some RA), zi y3130, zi y3129, zi xb]) (by decide +kernel) (fun k q => by cases q) rfl ?_
      refine y_same (i := .iload_n 2) (len := 1) (r := (0, 0, 0, 0)) (pc' := 24) (ls' := [some (.inl (some RA)), some (zi xb), some (zi xi)]) (st' := [zi xi, .inl (some RA), zi y3130, zi y3129, zi xb]) (by decide +kernel) (fun k q => by cases q) rfl ?_
      refine y_ic (c := 2) (len := 1) (r := (0, 0, 0, 0)) (by decide +kernel) (by decide) (fun y3131 hy3131 => ?_)
      refine y_cI (i := .invokevirtual 29) (len := 3) (r := (0, 64, 6, 659)) (nL := 3) (k := 1) (n := 3) (hs := []) (args := [.inl (some RA), zi xi, zi y3131]) (rest := [zi y3130, zi y3129, zi xb]) (l0 := [some (.inl (some RA)), some (zi xi), some (zi y3131)]) (by decide +kernel) (Or.inr (Or.inl ⟨_, rfl⟩)) rfl rfl rfl rfl (Nat.le_of_ble_eq_true rfl) (zO hg tRA aw1003 rfl) rfl (qI_le (by omega) (e_tell6 (d := 0) (RA := RA) (IA := IA) (w := 2) hg tRA tIA pA r hxi hk (ok i ik hk) (by omega) (by omega))) (fun y3132 qy3132 hRy3132 => ?_)
      obtain ⟨rfl, ey3132⟩ := hRy3132
      refine y_bp (i := .ishl) (f := fun x y => x <<< (y &&& 31)) (len := 1) (r := (0, 0, 0, 0)) (by decide +kernel) rfl rfl (fun y3133 hy3133 => ?_)
      have hy3133 : y3133 = y3130 <<< (y3132 &&& 31) := hy3133
      refine y_bp (i := .ior) (f := fun x y => x ||| y) (len := 1) (r := (0, 0, 0, 0)) (by decide +kernel) rfl rfl (fun y3134 hy3134 => ?_)
      have hy3134 : y3134 = y3129 ||| y3133 := hy3134
      refine y_ic (c := 1) (len := 1) (r := (0, 0, 0, 0)) (by decide +kernel) (by decide) (fun y3135 hy3135 => ?_)
      refine y_same (i := .aload_n 0) (len := 1) (r := (0, 0, 0, 0)) (pc' := 32) (ls' := [some (.inl (some RA)), some (zi xb), some (zi xi)]) (st' := [.inl (some RA), zi y3135, zi y3134, zi xb]) (by decide +kernel) (fun k q => by cases q) rfl ?_
      refine y_same (i := .iload_n 2) (len := 1) (r := (0, 0, 0, 0)) (pc' := 33) (ls' := [some (.inl (some RA)), some (zi xb), some (zi xi)]) (st' := [zi xi, .inl (some RA), zi y3135, zi y3134, zi xb]) (by decide +kernel) (fun k q => by cases q) rfl ?_
      refine y_ic (c := 3) (len := 1) (r := (0, 0, 0, 0)) (by decide +kernel) (by decide) (fun y3136 hy3136 => ?_)
      refine y_cI (i := .invokevirtual 29) (len := 3) (r := (0, 64, 6, 659)) (nL := 3) (k := 1) (n := 3) (hs := []) (args := [.inl (some RA), zi xi, zi y3136]) (rest := [zi y3135, zi y3134, zi xb]) (l0 := [some (.inl (some RA)), some (zi xi), some (zi y3136)]) (by decide +kernel) (Or.inr (Or.inl ⟨_, rfl⟩)) rfl rfl rfl rfl (Nat.le_of_ble_eq_true rfl) (zO hg tRA aw1003 rfl) rfl (qI_le (by omega) (e_tell6 (d := 0) (RA := RA) (IA := IA) (w := 3) hg tRA tIA pA r hxi hk (ok i ik hk) (by omega) (by omega))) (fun y3137 qy3137 hRy3137 => ?_)
      obtain ⟨rfl, ey3137⟩ := hRy3137
      refine y_bp (i := .ishl) (f := fun x y => x <<< (y &&& 31)) (len := 1) (r := (0, 0, 0, 0)) (by decide +kernel) rfl rfl (fun y3138 hy3138 => ?_)
      have hy3138 : y3138 = y3135 <<< (y3137 &&& 31) := hy3138
      refine y_bp (i := .ior) (f := fun x y => x ||| y) (len := 1) (r := (0, 0, 0, 0)) (by decide +kernel) rfl rfl (fun y3139 hy3139 => ?_)
      have hy3139 : y3139 = y3134 ||| y3138 := hy3139
      refine y_bp (i := .ior) (f := fun x y => x ||| y) (len := 1) (r := (0, 0, 0, 0)) (by decide +kernel) rfl rfl (fun y3140 hy3140 => ?_)
      have hy3140 : y3140 = xb ||| y3139 := hy3140
      refine y_same (i := .istore_n 1) (len := 1) (r := (0, 0, 0, 0)) (pc' := 41) (ls' := [some (.inl (some RA)), some (zi y3140), some (zi xi)]) (st' := []) (by decide +kernel) (fun k q => by cases q) rfl ?_
      refine y_inc (j := 2) (a := xi) (c := 1) (ls' := fun v => [some (.inl (some RA)), some (zi y3140), some v]) (len := 3) (r := (0, 0, 0, 0)) (by decide +kernel) rfl (fun _ => rfl) (by decide) (by omega) (by omega) (fun y3141 hy3141 => ?_)
      show qX (d + 1) 73 44 [some (.inl (some RA)), some (zi y3140), some (zi y3141)] [] h t _
      refine y_goto (off := (-40)) (pc' := 4) (len := 3) (r := (0, 0, 0, 0)) (by decide +kernel) (by decide +kernel) ?_
      have s1 := shl_v (c := y3126) hy3126 ey3128 (by show 0 ≤ ik.2.1; omega) (by show ik.2.1 ≤ 5; omega)
      have s2 := shl_v (c := y3130) hy3130 ey3132 (by show 0 ≤ ik.2.2.1; omega) (by show ik.2.2.1 ≤ 5; omega)
      have s3 := shl_v (c := y3135) hy3135 ey3137 (by show 0 ≤ ik.2.2.2; omega) (by show ik.2.2.2 ≤ 5; omega)
      rw [← hy3129] at s1
      rw [← hy3133] at s2
      rw [← hy3138] at s3
      have b1 : 2 ^ (cmp_ ik 1).toNat < 64 := p64 _ (by show ik.2.1.toNat < 6; omega)
      have b2 : 2 ^ (cmp_ ik 2).toNat < 64 := p64 _ (by show ik.2.2.1.toNat < 6; omega)
      have b3 : 2 ^ (cmp_ ik 3).toNat < 64 := p64 _ (by show ik.2.2.2.toNat < 6; omega)
      have o1 := or_v s1 s2 b1 b2
      rw [← hy3134] at o1
      have o2 := or_v o1 s3 (or64 b1 b2) b3
      rw [← hy3139] at o2
      have o3 := or_v hxb o2 hs (or64 (or64 b1 b2) b3)
      rw [← hy3140] at o3
      have e9 : l.drop i = ik :: l.drop (i + 1) := by
        rw [List.drop_eq_getElem_cons q]
        congr 1
        exact Option.some.inj ((List.getElem?_eq_getElem q).symm.trans hk)
      rw [e9]
      exact ih (i + 1) (s ||| bI_ ik) y3141 y3140 (by omega) o3 (or64 hs (bI_64 okk)) (by omega) (by omega)
    ·
      refine y_same (i := .iload_n 2) (len := 1) (r := (0, 0, 0, 0)) (pc' := 5) (ls' := [some (.inl (some RA)), some (zi xb), some (zi xi)]) (st' := [zi xi]) (by decide +kernel) (fun k q => by cases q) rfl ?_
      refine y_same (i := .aload_n 0) (len := 1) (r := (0, 0, 0, 0)) (pc' := 6) (ls' := [some (.inl (some RA)), some (zi xb), some (zi xi)]) (st' := [.inl (some RA), zi xi]) (by decide +kernel) (fun k q => by cases q) rfl ?_
      refine y_get (j := 9) (len := 3) (r := (6, 1, 0, 164)) (by decide +kernel) hg tRA aw1003 rfl rfl hl ?_
      refine y_cT (c := .ge) (off := 38) (pc' := 47) (len := 3) (r := (0, 0, 0, 0)) (by decide +kernel) (acmpT (c := .ge) (by show _ ≤ _; omega)) (by decide +kernel) ?_
      refine y_same (i := .iload_n 1) (len := 1) (r := (0, 0, 0, 0)) (pc' := 48) (ls' := [some (.inl (some RA)), some (zi xb), some (zi xi)]) (st' := [zi xb]) (by decide +kernel) (fun k q => by cases q) rfl ?_
      refine y_rI (len := 1) (r := (0, 0, 0, 0)) (nL := 3) (k := 1) (n9 := 1) (hs := []) (by decide +kernel) rfl rfl ?_
      rw [List.drop_of_length_le (by omega)]
      exact ⟨rfl, hxb⟩
theorem e_men6 {d t RA IA : Nat} {τ : List Nat} {h : zh} {l : List it4} (hg : hG τ h) (tRA : τ[RA]? = some 1003) (tIA : τ[IA]? = some 1006) (pA : hsl h RA 0 = some (.inl (some IA))) (r : rwC h RA IA l) (ok : ∀ (j : Nat) (i : it4), l[j]? = some i → okI i) : qI (d + 2) 73 [some (.inl (some RA)), none, none] h t (fun y h1 => h = h1 ∧ y = Int32.ofInt ((mS_ 0 l : Nat) : Int)) := by
  refine qI_of ?_
  refine y_ic (c := 0) (len := 1) (r := (0, 0, 0, 0)) (by decide +kernel) (by decide) (fun y3142 hy3142 => ?_)
  refine y_same (i := .istore_n 1) (len := 1) (r := (0, 0, 0, 0)) (pc' := 2) (ls' := [some (.inl (some RA)), some (zi y3142), none]) (st' := []) (by decide +kernel) (fun k q => by cases q) rfl ?_
  refine y_ic (c := 0) (len := 1) (r := (0, 0, 0, 0)) (by decide +kernel) (by decide) (fun y3143 hy3143 => ?_)
  refine y_same (i := .istore_n 2) (len := 1) (r := (0, 0, 0, 0)) (pc' := 4) (ls' := [some (.inl (some RA)), some (zi y3142), some (zi y3143)]) (st' := []) (by decide +kernel) (fun k q => by cases q) rfl ?_
  exact men6_l hg tRA tIA pA r ok l.length 0 0 y3143 y3142 (by omega) (i32_of (by omega)) (by omega) (by omega) (by omega)
theorem c_let {d t : Nat} {τ : List Nat} {h : zh} {cur : bsT} {hs : List bsT} (hg : hG τ h) (rc : RC h cur hs) (ok : (∀ (j : Nat) (i : it4), cur.1.1[j]? = some i → okI i) ∧ (∀ (j : Nat) (i : it4), cur.1.2[j]? = some i → okI i) ∧ (∀ (j : Nat) (i : it4), cur.2.1[j]? = some i → okI i) ∧ ∀ (j : Nat) (i : it4), cur.2.2[j]? = some i → okI i) : qI (d + 3) 112 [some (.inl (some 2)), none] h t (fun y h1 => h = h1 ∧ y = Int32.ofInt ((letN cur : Nat) : Int)) := by
  have k1 := mS_64 (s := 0) (by omega) (ok_mem ok.1)
  have k2 := mS_64 (s := 0) (by omega) (ok_mem ok.2.1)
  have k3 := mS_64 (s := 0) (by omega) (ok_mem ok.2.2.1)
  have k4 := mS_64 (s := 0) (by omega) (ok_mem ok.2.2.2)
  refine qI_of ?_
  obtain ⟨-, ⟨uz, vz, huz, l2z, b2z⟩, -⟩ := id rc
  have uuz : (uz = 1 ∧ vz = 6) ∨ (uz = 6 ∧ vz = 1) := huz
  have tyz := ty_u (tyB_of hg huz (tv2 hg) b2z.1 b2z.2.1 l2z) huz
  have laz := lay_u l2z huz
  obtain ⟨⟨⟨xp0z, hp0z, ep0z⟩, ip0z⟩, ⟨xc0z, hc0z, ec0z⟩, ic0z⟩ := b2z.2.2.1
  obtain ⟨⟨⟨xp1z, hp1z, ep1z⟩, ip1z⟩, ⟨xc1z, hc1z, ec1z⟩, ic1z⟩ := b2z.2.2.2
  refine y_same (i := .aload_n 0) (len := 1) (r := (0, 0, 0, 0)) (pc' := 1) (ls' := [some (.inl (some 2)), none]) (st' := [.inl (some 2)]) (by decide +kernel) (fun k q => by cases q) rfl ?_
  refine y_get (j := 10) (len := 3) (r := (9, 0, 2, 197)) (by decide +kernel) hg (tv2 hg) aw1000 rfl rfl b2z.1 ?_
  refine y_get (j := 23) (len := 3) (r := (8, 0, 2, 20180)) (by decide +kernel) hg tyz.1.1 aw1001 rfl rfl laz.1.1 ?_
  refine y_cI (i := .invokevirtual 33) (len := 3) (r := (0, 73, 6, 1122)) (nL := 3) (k := 1) (n := 1) (hs := []) (args := [.inl (some ((2 + uz + 1)))]) (rest := []) (l0 := [some (.inl (some ((2 + uz + 1)))), none, none]) (by decide +kernel) (Or.inr (Or.inl ⟨_, rfl⟩)) rfl rfl rfl rfl (Nat.le_of_ble_eq_true rfl) (zO hg tyz.1.2.1 aw1002 rfl) rfl (qI_le (by omega) (e_men5 (d := 0) (RA := (2 + uz + 1)) (IA := (2 + uz + 2)) hg tyz.1.2.1 tyz.1.2.2.1 laz.1.2.2.1 b2z.2.2.1.1 ok.1)) (fun y3144 qy3144 hRy3144 => ?_)
  obtain ⟨rfl, ey3144⟩ := hRy3144
  refine y_same (i := .aload_n 0) (len := 1) (r := (0, 0, 0, 0)) (pc' := 11) (ls' := [some (.inl (some 2)), none]) (st' := [.inl (some 2), zi y3144]) (by decide +kernel) (fun k q => by cases q) rfl ?_
  refine y_get (j := 10) (len := 3) (r := (9, 0, 2, 197)) (by decide +kernel) hg (tv2 hg) aw1000 rfl rfl b2z.1 ?_
  refine y_get (j := 37) (len := 3) (r := (8, 1, 2, 20187)) (by decide +kernel) hg tyz.1.1 aw1001 rfl rfl laz.1.2.1 ?_
  refine y_cI (i := .invokevirtual 33) (len := 3) (r := (0, 73, 6, 1122)) (nL := 3) (k := 1) (n := 1) (hs := []) (args := [.inl (some ((2 + uz + 3)))]) (rest := [zi y3144]) (l0 := [some (.inl (some ((2 + uz + 3)))), none, none]) (by decide +kernel) (Or.inr (Or.inl ⟨_, rfl⟩)) rfl rfl rfl rfl (Nat.le_of_ble_eq_true rfl) (zO hg tyz.1.2.2.2.1 aw1003 rfl) rfl (qI_le (by omega) (e_men6 (d := 0) (RA := (2 + uz + 3)) (IA := (2 + uz + 4)) hg tyz.1.2.2.2.1 tyz.1.2.2.2.2 laz.1.2.2.2 b2z.2.2.1.2 ok.2.1)) (fun y3145 qy3145 hRy3145 => ?_)
  obtain ⟨rfl, ey3145⟩ := hRy3145
  refine y_bp (i := .ior) (f := fun x y => x ||| y) (len := 1) (r := (0, 0, 0, 0)) (by decide +kernel) rfl rfl (fun y3146 hy3146 => ?_)
  have hy3146 : y3146 = y3144 ||| y3145 := hy3146
  refine y_same (i := .aload_n 0) (len := 1) (r := (0, 0, 0, 0)) (pc' := 22) (ls' := [some (.inl (some 2)), none]) (st' := [.inl (some 2), zi y3146]) (by decide +kernel) (fun k q => by cases q) rfl ?_
  refine y_get (j := 16) (len := 3) (r := (9, 1, 2, 202)) (by decide +kernel) hg (tv2 hg) aw1000 rfl rfl b2z.2.1 ?_
  refine y_get (j := 23) (len := 3) (r := (8, 0, 2, 20180)) (by decide +kernel) hg tyz.2.1 aw1001 rfl rfl laz.2.1 ?_
  refine y_cI (i := .invokevirtual 33) (len := 3) (r := (0, 73, 6, 1122)) (nL := 3) (k := 1) (n := 1) (hs := []) (args := [.inl (some ((2 + vz + 1)))]) (rest := [zi y3146]) (l0 := [some (.inl (some ((2 + vz + 1)))), none, none]) (by decide +kernel) (Or.inr (Or.inl ⟨_, rfl⟩)) rfl rfl rfl rfl (Nat.le_of_ble_eq_true rfl) (zO hg tyz.2.2.1 aw1002 rfl) rfl (qI_le (by omega) (e_men5 (d := 0) (RA := (2 + vz + 1)) (IA := (2 + vz + 2)) hg tyz.2.2.1 tyz.2.2.2.1 laz.2.2.2.1 b2z.2.2.2.1 ok.2.2.1)) (fun y3147 qy3147 hRy3147 => ?_)
  obtain ⟨rfl, ey3147⟩ := hRy3147
  refine y_bp (i := .ior) (f := fun x y => x ||| y) (len := 1) (r := (0, 0, 0, 0)) (by decide +kernel) rfl rfl (fun y3148 hy3148 => ?_)
  have hy3148 : y3148 = y3146 ||| y3147 := hy3148
  refine y_same (i := .aload_n 0) (len := 1) (r := (0, 0, 0, 0)) (pc' := 33) (ls' := [some (.inl (some 2)), none]) (st' := [.inl (some 2), zi y3148]) (by decide +kernel) (fun k q => by cases q) rfl ?_
  refine y_get (j := 16) (len := 3) (r := (9, 1, 2, 202)) (by decide +kernel) hg (tv2 hg) aw1000 rfl rfl b2z.2.1 ?_
  refine y_get (j := 37) (len := 3) (r := (8, 1, 2, 20187)) (by decide +kernel) hg tyz.2.1 aw1001 rfl rfl laz.2.2.1 ?_
  refine y_cI (i := .invokevirtual 33) (len := 3) (r := (0, 73, 6, 1122)) (nL := 3) (k := 1) (n := 1) (hs := []) (args := [.inl (some ((2 + vz + 3)))]) (rest := [zi y3148]) (l0 := [some (.inl (some ((2 + vz + 3)))), none, none]) (by decide +kernel) (Or.inr (Or.inl ⟨_, rfl⟩)) rfl rfl rfl rfl (Nat.le_of_ble_eq_true rfl) (zO hg tyz.2.2.2.2.1 aw1003 rfl) rfl (qI_le (by omega) (e_men6 (d := 0) (RA := (2 + vz + 3)) (IA := (2 + vz + 4)) hg tyz.2.2.2.2.1 tyz.2.2.2.2.2 laz.2.2.2.2 b2z.2.2.2.2 ok.2.2.2)) (fun y3149 qy3149 hRy3149 => ?_)
  obtain ⟨rfl, ey3149⟩ := hRy3149
  refine y_bp (i := .ior) (f := fun x y => x ||| y) (len := 1) (r := (0, 0, 0, 0)) (by decide +kernel) rfl rfl (fun y3150 hy3150 => ?_)
  have hy3150 : y3150 = y3148 ||| y3149 := hy3150
  refine y_same (i := .istore_n 1) (len := 1) (r := (0, 0, 0, 0)) (pc' := 44) (ls' := [some (.inl (some 2)), some (zi y3150)]) (st' := []) (by decide +kernel) (fun k q => by cases q) rfl ?_
  refine y_same (i := .iload_n 1) (len := 1) (r := (0, 0, 0, 0)) (pc' := 45) (ls' := [some (.inl (some 2)), some (zi y3150)]) (st' := [zi y3150]) (by decide +kernel) (fun k q => by cases q) rfl ?_
  refine y_bi (c := (-2)) (len := 2) (r := (0, 0, 0, 0)) (by decide +kernel) (by decide) (fun y3151 hy3151 => ?_)
  refine y_bp (i := .iand) (f := fun x y => x &&& y) (len := 1) (r := (0, 0, 0, 0)) (by decide +kernel) rfl rfl (fun y3152 hy3152 => ?_)
  have hy3152 : y3152 = y3150 &&& y3151 := hy3152
  refine y_rI (len := 1) (r := (0, 0, 0, 0)) (nL := 2) (k := 1) (n9 := 1) (hs := []) (by decide +kernel) rfl rfl ?_
  have o1 := or_v ey3144 ey3145 k1 k2
  rw [← hy3146] at o1
  have o2 := or_v o1 ey3147 (or64 k1 k2) k3
  rw [← hy3148] at o2
  have o3 := or_v o2 ey3149 (or64 (or64 k1 k2) k3) k4
  rw [← hy3150] at o3
  refine ⟨rfl, ?_⟩
  rw [hy3152, o3, ofI (w := -2) hy3151 rfl]
  exact an_tab _ (or64 (or64 (or64 k1 k2) k3) k4)
theorem y_ldcw {d mi pc : Nat} {ls : List (Option zv)} {st : List zv} {h : zh} {t : Nat} {P : zo × zh × Nat → Prop} {len i c : Nat} {r : zr} (hf : zfetch mi pc = some (.ldc_w i, len, r)) (hr : r.2.1 = c) (k : qX d mi (pc + 3) ls (zi (Int32.ofNat c) :: st) h t P) : qX d mi pc ls st h t P := by
  subst hr
  refine y_same hf (fun k q => by cases q) ?_ k
  show frcI (Int32.ofNat r.2.1) (fun v => some (pc + 3, ls, zi v :: st, (none : zp))) = _
  rw [frcI_eq]
def bcs (x : Int32) : Int32 := (x.toUInt32 >>> (Int32.toUInt32 1 &&& Int32.toUInt32 31)).toInt32
def bcF (x : Int32) : Int32 := ((((((((x - (((x).toUInt32 >>> (((1 : Int32)).toUInt32 &&& Int32.toUInt32 31)).toInt32 &&& (Int32.ofNat 1431655765))) &&& (Int32.ofNat 858993459)) + ((((x - (((x).toUInt32 >>> (((1 : Int32)).toUInt32 &&& Int32.toUInt32 31)).toInt32 &&& (Int32.ofNat 1431655765)))).toUInt32 >>> (((2 : Int32)).toUInt32 &&& Int32.toUInt32 31)).toInt32 &&& (Int32.ofNat 858993459))) + (((((x - (((x).toUInt32 >>> (((1 : Int32)).toUInt32 &&& Int32.toUInt32 31)).toInt32 &&& (Int32.ofNat 1431655765))) &&& (Int32.ofNat 858993459)) + ((((x - (((x).toUInt32 >>> (((1 : Int32)).toUInt32 &&& Int32.toUInt32 31)).toInt32 &&& (Int32.ofNat 1431655765)))).toUInt32 >>> (((2 : Int32)).toUInt32 &&& Int32.toUInt32 31)).toInt32 &&& (Int32.ofNat 858993459)))).toUInt32 >>> (((4 : Int32)).toUInt32 &&& Int32.toUInt32 31)).toInt32) &&& (Int32.ofNat 252645135)) + (((((((x - (((x).toUInt32 >>> (((1 : Int32)).toUInt32 &&& Int32.toUInt32 31)).toInt32 &&& (Int32.ofNat 1431655765))) &&& (Int32.ofNat 858993459)) + ((((x - (((x).toUInt32 >>> (((1 : Int32)).toUInt32 &&& Int32.toUInt32 31)).toInt32 &&& (Int32.ofNat 1431655765)))).toUInt32 >>> (((2 : Int32)).toUInt32 &&& Int32.toUInt32 31)).toInt32 &&& (Int32.ofNat 858993459))) + (((((x - (((x).toUInt32 >>> (((1 : Int32)).toUInt32 &&& Int32.toUInt32 31)).toInt32 &&& (Int32.ofNat 1431655765))) &&& (Int32.ofNat 858993459)) + ((((x - (((x).toUInt32 >>> (((1 : Int32)).toUInt32 &&& Int32.toUInt32 31)).toInt32 &&& (Int32.ofNat 1431655765)))).toUInt32 >>> (((2 : Int32)).toUInt32 &&& Int32.toUInt32 31)).toInt32 &&& (Int32.ofNat 858993459)))).toUInt32 >>> (((4 : Int32)).toUInt32 &&& Int32.toUInt32 31)).toInt32) &&& (Int32.ofNat 252645135))).toUInt32 >>> (((8 : Int32)).toUInt32 &&& Int32.toUInt32 31)).toInt32) + ((((((((x - (((x).toUInt32 >>> (((1 : Int32)).toUInt32 &&& Int32.toUInt32 31)).toInt32 &&& (Int32.ofNat 1431655765))) &&& (Int32.ofNat 858993459)) + ((((x - (((x).toUInt32 >>> (((1 : Int32)).toUInt32 &&& Int32.toUInt32 31)).toInt32 &&& (Int32.ofNat 1431655765)))).toUInt32 >>> (((2 : Int32)).toUInt32 &&& Int32.toUInt32 31)).toInt32 &&& (Int32.ofNat 858993459))) + (((((x - (((x).toUInt32 >>> (((1 : Int32)).toUInt32 &&& Int32.toUInt32 31)).toInt32 &&& (Int32.ofNat 1431655765))) &&& (Int32.ofNat 858993459)) + ((((x - (((x).toUInt32 >>> (((1 : Int32)).toUInt32 &&& Int32.toUInt32 31)).toInt32 &&& (Int32.ofNat 1431655765)))).toUInt32 >>> (((2 : Int32)).toUInt32 &&& Int32.toUInt32 31)).toInt32 &&& (Int32.ofNat 858993459)))).toUInt32 >>> (((4 : Int32)).toUInt32 &&& Int32.toUInt32 31)).toInt32) &&& (Int32.ofNat 252645135)) + (((((((x - (((x).toUInt32 >>> (((1 : Int32)).toUInt32 &&& Int32.toUInt32 31)).toInt32 &&& (Int32.ofNat 1431655765))) &&& (Int32.ofNat 858993459)) + ((((x - (((x).toUInt32 >>> (((1 : Int32)).toUInt32 &&& Int32.toUInt32 31)).toInt32 &&& (Int32.ofNat 1431655765)))).toUInt32 >>> (((2 : Int32)).toUInt32 &&& Int32.toUInt32 31)).toInt32 &&& (Int32.ofNat 858993459))) + (((((x - (((x).toUInt32 >>> (((1 : Int32)).toUInt32 &&& Int32.toUInt32 31)).toInt32 &&& (Int32.ofNat 1431655765))) &&& (Int32.ofNat 858993459)) + ((((x - (((x).toUInt32 >>> (((1 : Int32)).toUInt32 &&& Int32.toUInt32 31)).toInt32 &&& (Int32.ofNat 1431655765)))).toUInt32 >>> (((2 : Int32)).toUInt32 &&& Int32.toUInt32 31)).toInt32 &&& (Int32.ofNat 858993459)))).toUInt32 >>> (((4 : Int32)).toUInt32 &&& Int32.toUInt32 31)).toInt32) &&& (Int32.ofNat 252645135))).toUInt32 >>> (((8 : Int32)).toUInt32 &&& Int32.toUInt32 31)).toInt32)).toUInt32 >>> (((16 : Int32)).toUInt32 &&& Int32.toUInt32 31)).toInt32) &&& (63 : Int32))
theorem c_bc {d t : Nat} {h : zh} {x : Int32} {F : Int32 → Int32} (hF : ∀ x : Int32, F x = bcF x) : qI (d + 1) 265 [some (zi x)] h t (fun y h1 => h = h1 ∧ y = F x) := by
  rw [show F = bcF from funext hF]
  refine qI_of ?_
  refine y_same (i := .iload_n 0) (len := 1) (r := (0, 0, 0, 0)) (pc' := 1) (ls' := [some (zi x)]) (st' := [zi x]) (by decide +kernel) (fun k q => by cases q) rfl ?_
  refine y_same (i := .iload_n 0) (len := 1) (r := (0, 0, 0, 0)) (pc' := 2) (ls' := [some (zi x)]) (st' := [zi x, zi x]) (by decide +kernel) (fun k q => by cases q) rfl ?_
  refine y_ic (c := 1) (len := 1) (r := (0, 0, 0, 0)) (by decide +kernel) (by decide) (fun y3153 hy3153 => ?_)
  refine y_bp (i := .iushr) (f := fun x y => (x.toUInt32 >>> (y.toUInt32 &&& Int32.toUInt32 31)).toInt32) (len := 1) (r := (0, 0, 0, 0)) (by decide +kernel) rfl rfl (fun y3154 hy3154 => ?_)
  refine y_ldcw (i := 265) (c := 1431655765) (len := 3) (r := (0, 1431655765, 707, 0)) (by decide +kernel) rfl ?_
  refine y_bp (i := .iand) (f := fun x y => x &&& y) (len := 1) (r := (0, 0, 0, 0)) (by decide +kernel) rfl rfl (fun y3155 hy3155 => ?_)
  have hy3155 : y3155 = y3154 &&& (Int32.ofNat 1431655765) := hy3155
  refine y_bp (i := .isub) (f := fun x y => x - y) (len := 1) (r := (0, 0, 0, 0)) (by decide +kernel) rfl rfl (fun y3156 hy3156 => ?_)
  refine y_same (i := .istore_n 0) (len := 1) (r := (0, 0, 0, 0)) (pc' := 10) (ls' := [some (zi y3156)]) (st' := []) (by decide +kernel) (fun k q => by cases q) rfl ?_
  refine y_same (i := .iload_n 0) (len := 1) (r := (0, 0, 0, 0)) (pc' := 11) (ls' := [some (zi y3156)]) (st' := [zi y3156]) (by decide +kernel) (fun k q => by cases q) rfl ?_
  refine y_ldcw (i := 266) (c := 858993459) (len := 3) (r := (0, 858993459, 708, 0)) (by decide +kernel) rfl ?_
  refine y_bp (i := .iand) (f := fun x y => x &&& y) (len := 1) (r := (0, 0, 0, 0)) (by decide +kernel) rfl rfl (fun y3157 hy3157 => ?_)
  have hy3157 : y3157 = y3156 &&& (Int32.ofNat 858993459) := hy3157
  refine y_same (i := .iload_n 0) (len := 1) (r := (0, 0, 0, 0)) (pc' := 16) (ls' := [some (zi y3156)]) (st' := [zi y3156, zi y3157]) (by decide +kernel) (fun k q => by cases q) rfl ?_
  refine y_ic (c := 2) (len := 1) (r := (0, 0, 0, 0)) (by decide +kernel) (by decide) (fun y3158 hy3158 => ?_)
  refine y_bp (i := .iushr) (f := fun x y => (x.toUInt32 >>> (y.toUInt32 &&& Int32.toUInt32 31)).toInt32) (len := 1) (r := (0, 0, 0, 0)) (by decide +kernel) rfl rfl (fun y3159 hy3159 => ?_)
  refine y_ldcw (i := 266) (c := 858993459) (len := 3) (r := (0, 858993459, 708, 0)) (by decide +kernel) rfl ?_
  refine y_bp (i := .iand) (f := fun x y => x &&& y) (len := 1) (r := (0, 0, 0, 0)) (by decide +kernel) rfl rfl (fun y3160 hy3160 => ?_)
  have hy3160 : y3160 = y3159 &&& (Int32.ofNat 858993459) := hy3160
  refine y_bp (i := .iadd) (f := fun x y => x + y) (len := 1) (r := (0, 0, 0, 0)) (by decide +kernel) rfl rfl (fun y3161 hy3161 => ?_)
  refine y_same (i := .istore_n 0) (len := 1) (r := (0, 0, 0, 0)) (pc' := 24) (ls' := [some (zi y3161)]) (st' := []) (by decide +kernel) (fun k q => by cases q) rfl ?_
  refine y_same (i := .iload_n 0) (len := 1) (r := (0, 0, 0, 0)) (pc' := 25) (ls' := [some (zi y3161)]) (st' := [zi y3161]) (by decide +kernel) (fun k q => by cases q) rfl ?_
  refine y_same (i := .iload_n 0) (len := 1) (r := (0, 0, 0, 0)) (pc' := 26) (ls' := [some (zi y3161)]) (st' := [zi y3161, zi y3161]) (by decide +kernel) (fun k q => by cases q) rfl ?_
  refine y_ic (c := 4) (len := 1) (r := (0, 0, 0, 0)) (by decide +kernel) (by decide) (fun y3162 hy3162 => ?_)
  refine y_bp (i := .iushr) (f := fun x y => (x.toUInt32 >>> (y.toUInt32 &&& Int32.toUInt32 31)).toInt32) (len := 1) (r := (0, 0, 0, 0)) (by decide +kernel) rfl rfl (fun y3163 hy3163 => ?_)
  refine y_bp (i := .iadd) (f := fun x y => x + y) (len := 1) (r := (0, 0, 0, 0)) (by decide +kernel) rfl rfl (fun y3164 hy3164 => ?_)
  refine y_ldcw (i := 267) (c := 252645135) (len := 3) (r := (0, 252645135, 709, 0)) (by decide +kernel) rfl ?_
  refine y_bp (i := .iand) (f := fun x y => x &&& y) (len := 1) (r := (0, 0, 0, 0)) (by decide +kernel) rfl rfl (fun y3165 hy3165 => ?_)
  have hy3165 : y3165 = y3164 &&& (Int32.ofNat 252645135) := hy3165
  refine y_same (i := .istore_n 0) (len := 1) (r := (0, 0, 0, 0)) (pc' := 34) (ls' := [some (zi y3165)]) (st' := []) (by decide +kernel) (fun k q => by cases q) rfl ?_
  refine y_same (i := .iload_n 0) (len := 1) (r := (0, 0, 0, 0)) (pc' := 35) (ls' := [some (zi y3165)]) (st' := [zi y3165]) (by decide +kernel) (fun k q => by cases q) rfl ?_
  refine y_same (i := .iload_n 0) (len := 1) (r := (0, 0, 0, 0)) (pc' := 36) (ls' := [some (zi y3165)]) (st' := [zi y3165, zi y3165]) (by decide +kernel) (fun k q => by cases q) rfl ?_
  refine y_bi (c := 8) (len := 2) (r := (0, 0, 0, 0)) (by decide +kernel) (by decide) (fun y3166 hy3166 => ?_)
  refine y_bp (i := .iushr) (f := fun x y => (x.toUInt32 >>> (y.toUInt32 &&& Int32.toUInt32 31)).toInt32) (len := 1) (r := (0, 0, 0, 0)) (by decide +kernel) rfl rfl (fun y3167 hy3167 => ?_)
  refine y_bp (i := .iadd) (f := fun x y => x + y) (len := 1) (r := (0, 0, 0, 0)) (by decide +kernel) rfl rfl (fun y3168 hy3168 => ?_)
  refine y_same (i := .istore_n 0) (len := 1) (r := (0, 0, 0, 0)) (pc' := 41) (ls' := [some (zi y3168)]) (st' := []) (by decide +kernel) (fun k q => by cases q) rfl ?_
  refine y_same (i := .iload_n 0) (len := 1) (r := (0, 0, 0, 0)) (pc' := 42) (ls' := [some (zi y3168)]) (st' := [zi y3168]) (by decide +kernel) (fun k q => by cases q) rfl ?_
  refine y_same (i := .iload_n 0) (len := 1) (r := (0, 0, 0, 0)) (pc' := 43) (ls' := [some (zi y3168)]) (st' := [zi y3168, zi y3168]) (by decide +kernel) (fun k q => by cases q) rfl ?_
  refine y_bi (c := 16) (len := 2) (r := (0, 0, 0, 0)) (by decide +kernel) (by decide) (fun y3169 hy3169 => ?_)
  refine y_bp (i := .iushr) (f := fun x y => (x.toUInt32 >>> (y.toUInt32 &&& Int32.toUInt32 31)).toInt32) (len := 1) (r := (0, 0, 0, 0)) (by decide +kernel) rfl rfl (fun y3170 hy3170 => ?_)
  refine y_bp (i := .iadd) (f := fun x y => x + y) (len := 1) (r := (0, 0, 0, 0)) (by decide +kernel) rfl rfl (fun y3171 hy3171 => ?_)
  refine y_same (i := .istore_n 0) (len := 1) (r := (0, 0, 0, 0)) (pc' := 48) (ls' := [some (zi y3171)]) (st' := []) (by decide +kernel) (fun k q => by cases q) rfl ?_
  refine y_same (i := .iload_n 0) (len := 1) (r := (0, 0, 0, 0)) (pc' := 49) (ls' := [some (zi y3171)]) (st' := [zi y3171]) (by decide +kernel) (fun k q => by cases q) rfl ?_
  refine y_bi (c := 63) (len := 2) (r := (0, 0, 0, 0)) (by decide +kernel) (by decide) (fun y3172 hy3172 => ?_)
  refine y_bp (i := .iand) (f := fun x y => x &&& y) (len := 1) (r := (0, 0, 0, 0)) (by decide +kernel) rfl rfl (fun y3173 hy3173 => ?_)
  have hy3173 : y3173 = y3171 &&& y3172 := hy3173
  refine y_rI (len := 1) (r := (0, 0, 0, 0)) (nL := 1) (k := 1) (n9 := 1) (hs := []) (by decide +kernel) rfl rfl ?_
  refine ⟨rfl, ?_⟩
  unfold bcF
  simp only [hy3173, ofI (w := 63) hy3172 rfl, hy3171, hy3170, ofI (w := 16) hy3169 rfl, hy3168, hy3167, ofI (w := 8) hy3166 rfl, hy3165, hy3164, hy3163, ofI (w := 4) hy3162 rfl, hy3161, hy3160, hy3159, ofI (w := 2) hy3158 rfl, hy3157, hy3156, hy3155, hy3154, ofI (w := 1) hy3153 rfl]
theorem bc_tab : ∀ n : Nat, n < 64 → (bcF (Int32.ofInt (n : Int))).toInt = (pop6 n : Int) := by decide +kernel
theorem let_64 {b : bsT} : letN b < 64 := by
  have : letN b ≤ 62 := Nat.and_le_right
  omega
theorem c_cl {d t : Nat} {τ : List Nat} {h : zh} {cur : bsT} {hs : List bsT} (hg : hG τ h) (rc : RC h cur hs) (ok : (∀ (j : Nat) (i : it4), cur.1.1[j]? = some i → okI i) ∧ (∀ (j : Nat) (i : it4), cur.1.2[j]? = some i → okI i) ∧ (∀ (j : Nat) (i : it4), cur.2.1[j]? = some i → okI i) ∧ ∀ (j : Nat) (i : it4), cur.2.2[j]? = some i → okI i) : qI (d + 5) 113 [some (.inl (some 2))] h t (fun y h1 => h = h1 ∧ y.toInt = (pop6 (letN cur) : Int)) := by
  refine qI_of ?_
  refine y_same (i := .aload_n 0) (len := 1) (r := (0, 0, 0, 0)) (pc' := 1) (ls' := [some (.inl (some 2))]) (st' := [.inl (some 2)]) (by decide +kernel) (fun k q => by cases q) rfl ?_
  refine y_cI (i := .invokevirtual 40) (len := 3) (r := (0, 112, 9, 1118)) (nL := 2) (k := 1) (n := 1) (hs := []) (args := [.inl (some 2)]) (rest := []) (l0 := [some (.inl (some 2)), none]) (by decide +kernel) (Or.inr (Or.inl ⟨_, rfl⟩)) rfl rfl rfl rfl (Nat.le_of_ble_eq_true rfl) (zO hg (tv2 hg) aw1000 rfl) rfl (qI_le (by omega) (c_let (d := 0) hg rc ok)) (fun y3174 qy3174 hRy3174 => ?_)
  obtain ⟨rfl, ey3174⟩ := hRy3174
  refine y_cI (i := .invokestatic 43) (len := 3) (r := (1, 265, 60, 1123)) (nL := 1) (k := 1) (n := 1) (hs := []) (args := [zi y3174]) (rest := []) (l0 := [some (zi y3174)]) (by decide +kernel) (Or.inl ⟨_, rfl⟩) rfl rfl rfl rfl (Nat.le_of_ble_eq_true rfl) rfl rfl (qI_le (by omega) (c_bc (d := 0) (F := bcF) (fun _ => rfl))) (fun y3175 qy3175 hRy3175 => ?_)
  obtain ⟨rfl, ey3175⟩ := hRy3175
  refine y_rI (len := 1) (r := (0, 0, 0, 0)) (nL := 1) (k := 1) (n9 := 1) (hs := []) (by decide +kernel) rfl rfl ?_
  refine ⟨rfl, ?_⟩
  rw [ey3175, ey3174]
  exact bc_tab _ let_64
theorem c_told0 {t T : Nat} {τ : List Nat} {h : zh} {cur : bsT} {hs : List bsT} {xw xT : Int32} (hg : hG τ h) (rc : RC h cur hs) (r5 : hsl h 0 5 = some (.inl (some 2))) (hT : hsl h 0 1 = some (zi xT)) (eT : xT.toInt = (T : Int)) (ok : (∀ (j : Nat) (i : it4), cur.1.1[j]? = some i → okI i) ∧ (∀ (j : Nat) (i : it4), cur.1.2[j]? = some i → okI i) ∧ (∀ (j : Nat) (i : it4), cur.2.1[j]? = some i → okI i) ∧ ∀ (j : Nat) (i : it4), cur.2.2[j]? = some i → okI i) (hw : xw.toInt = 0) : qI 21 139 [some (.inl (some 0)), some (zi xw)] h t (fun y h1 => h = h1 ∧ y.toInt = (cur.1.1.length : Int)) := by
  obtain ⟨-, -, -, -, -, -, -, -, ⟨xk, hk, ek⟩, -⟩ := id rc
  refine qI_of ?_
  obtain ⟨-, ⟨uz, vz, huz, l2z, b2z⟩, -⟩ := id rc
  have uuz : (uz = 1 ∧ vz = 6) ∨ (uz = 6 ∧ vz = 1) := huz
  have tyz := ty_u (tyB_of hg huz (tv2 hg) b2z.1 b2z.2.1 l2z) huz
  have laz := lay_u l2z huz
  obtain ⟨⟨⟨xp0z, hp0z, ep0z⟩, ip0z⟩, ⟨xc0z, hc0z, ec0z⟩, ic0z⟩ := b2z.2.2.1
  obtain ⟨⟨⟨xp1z, hp1z, ep1z⟩, ip1z⟩, ⟨xc1z, hc1z, ec1z⟩, ic1z⟩ := b2z.2.2.2
  refine y_same (i := .aload_n 0) (len := 1) (r := (0, 0, 0, 0)) (pc' := 1) (ls' := [some (.inl (some 0)), some (zi xw)]) (st' := [.inl (some 0)]) (by decide +kernel) (fun k q => by cases q) rfl ?_
  refine y_same (i := .iload_n 1) (len := 1) (r := (0, 0, 0, 0)) (pc' := 2) (ls' := [some (.inl (some 0)), some (zi xw)]) (st' := [zi xw, .inl (some 0)]) (by decide +kernel) (fun k q => by cases q) rfl ?_
  refine y_iF (c := .lt) (off := 13) (len := 3) (r := (0, 0, 0, 0)) (by decide +kernel) (acmpF (c := .lt) (by show _ ≤ _; omega)) ?_
  refine y_same (i := .iload_n 1) (len := 1) (r := (0, 0, 0, 0)) (pc' := 6) (ls' := [some (.inl (some 0)), some (zi xw)]) (st' := [zi xw, .inl (some 0)]) (by decide +kernel) (fun k q => by cases q) rfl ?_
  refine y_bi (c := 6) (len := 2) (r := (0, 0, 0, 0)) (by decide +kernel) (by decide) (fun y3176 hy3176 => ?_)
  refine y_cF (c := .gt) (off := 7) (len := 3) (r := (0, 0, 0, 0)) (by decide +kernel) (acmpF (c := .gt) (by show _ ≤ _; omega)) ?_
  refine y_ic (c := 1) (len := 1) (r := (0, 0, 0, 0)) (by decide +kernel) (by decide) (fun y3177 hy3177 => ?_)
  refine y_goto (off := 4) (pc' := 16) (len := 3) (r := (0, 0, 0, 0)) (by decide +kernel) (by decide +kernel) ?_
  refine y_cV (i := .invokevirtual 70) (len := 3) (r := (0, 153, 11, 852)) (nL := 2) (k := 0) (n := 2) (hs := []) (args := [.inl (some 0), zi y3177]) (rest := []) (l0 := [some (.inl (some 0)), some (zi y3177)]) (by decide +kernel) (Or.inr (Or.inl ⟨_, rfl⟩)) rfl rfl rfl rfl (Nat.le_of_ble_eq_true rfl) (zO hg (tv0 hg) aw0 rfl) rfl (qV_le (by decide) (c_fit (d := 0) (by omega))) (fun q3178 hR3178 => ?_)
  obtain rfl := hR3178
  refine y_same (i := .iload_n 1) (len := 1) (r := (0, 0, 0, 0)) (pc' := 20) (ls' := [some (.inl (some 0)), some (zi xw)]) (st' := [zi xw]) (by decide +kernel) (fun k q => by cases q) rfl ?_
  refine y_sw (dflt := 109) (lo := 0) (hi := 5) (offs := #[40, 54, 68, 82, 96, 104]) (off := 40) (pc' := 60) (len := 40) (r := (0, 0, 0, 0)) (by decide +kernel) (zswI (k := 0) (by omega) (by omega) (by omega) rfl) (by decide +kernel) ?_
  refine y_same (i := .aload_n 0) (len := 1) (r := (0, 0, 0, 0)) (pc' := 61) (ls' := [some (.inl (some 0)), some (zi xw)]) (st' := [.inl (some 0)]) (by decide +kernel) (fun k q => by cases q) rfl ?_
  refine y_get (j := 29) (len := 3) (r := (11, 5, 2, 404)) (by decide +kernel) hg (tv0 hg) aw0 rfl rfl r5 ?_
  refine y_get (j := 139) (len := 3) (r := (9, 0, 2, 20201)) (by decide +kernel) hg (tv2 hg) aw1000 rfl rfl b2z.1 ?_
  refine y_get (j := 109) (len := 3) (r := (8, 0, 2, 20182)) (by decide +kernel) hg tyz.1.1 aw1001 rfl rfl laz.1.1 ?_
  refine y_get (j := 126) (len := 3) (r := (6, 1, 0, 20168)) (by decide +kernel) hg tyz.1.2.1 aw1002 rfl rfl hp0z ?_
  refine y_rI (len := 1) (r := (0, 0, 0, 0)) (nL := 2) (k := 1) (n9 := 2) (hs := []) (by decide +kernel) rfl rfl ?_
  exact ⟨rfl, by omega⟩
theorem c_told1 {t T : Nat} {τ : List Nat} {h : zh} {cur : bsT} {hs : List bsT} {xw xT : Int32} (hg : hG τ h) (rc : RC h cur hs) (r5 : hsl h 0 5 = some (.inl (some 2))) (hT : hsl h 0 1 = some (zi xT)) (eT : xT.toInt = (T : Int)) (ok : (∀ (j : Nat) (i : it4), cur.1.1[j]? = some i → okI i) ∧ (∀ (j : Nat) (i : it4), cur.1.2[j]? = some i → okI i) ∧ (∀ (j : Nat) (i : it4), cur.2.1[j]? = some i → okI i) ∧ ∀ (j : Nat) (i : it4), cur.2.2[j]? = some i → okI i) (hw : xw.toInt = 1) : qI 21 139 [some (.inl (some 0)), some (zi xw)] h t (fun y h1 => h = h1 ∧ y.toInt = (cur.2.1.length : Int)) := by
  obtain ⟨-, -, -, -, -, -, -, -, ⟨xk, hk, ek⟩, -⟩ := id rc
  refine qI_of ?_
  obtain ⟨-, ⟨uz, vz, huz, l2z, b2z⟩, -⟩ := id rc
  have uuz : (uz = 1 ∧ vz = 6) ∨ (uz = 6 ∧ vz = 1) := huz
  have tyz := ty_u (tyB_of hg huz (tv2 hg) b2z.1 b2z.2.1 l2z) huz
  have laz := lay_u l2z huz
  obtain ⟨⟨⟨xp0z, hp0z, ep0z⟩, ip0z⟩, ⟨xc0z, hc0z, ec0z⟩, ic0z⟩ := b2z.2.2.1
  obtain ⟨⟨⟨xp1z, hp1z, ep1z⟩, ip1z⟩, ⟨xc1z, hc1z, ec1z⟩, ic1z⟩ := b2z.2.2.2
  refine y_same (i := .aload_n 0) (len := 1) (r := (0, 0, 0, 0)) (pc' := 1) (ls' := [some (.inl (some 0)), some (zi xw)]) (st' := [.inl (some 0)]) (by decide +kernel) (fun k q => by cases q) rfl ?_
  refine y_same (i := .iload_n 1) (len := 1) (r := (0, 0, 0, 0)) (pc' := 2) (ls' := [some (.inl (some 0)), some (zi xw)]) (st' := [zi xw, .inl (some 0)]) (by decide +kernel) (fun k q => by cases q) rfl ?_
  refine y_iF (c := .lt) (off := 13) (len := 3) (r := (0, 0, 0, 0)) (by decide +kernel) (acmpF (c := .lt) (by show _ ≤ _; omega)) ?_
  refine y_same (i := .iload_n 1) (len := 1) (r := (0, 0, 0, 0)) (pc' := 6) (ls' := [some (.inl (some 0)), some (zi xw)]) (st' := [zi xw, .inl (some 0)]) (by decide +kernel) (fun k q => by cases q) rfl ?_
  refine y_bi (c := 6) (len := 2) (r := (0, 0, 0, 0)) (by decide +kernel) (by decide) (fun y3179 hy3179 => ?_)
  refine y_cF (c := .gt) (off := 7) (len := 3) (r := (0, 0, 0, 0)) (by decide +kernel) (acmpF (c := .gt) (by show _ ≤ _; omega)) ?_
  refine y_ic (c := 1) (len := 1) (r := (0, 0, 0, 0)) (by decide +kernel) (by decide) (fun y3180 hy3180 => ?_)
  refine y_goto (off := 4) (pc' := 16) (len := 3) (r := (0, 0, 0, 0)) (by decide +kernel) (by decide +kernel) ?_
  refine y_cV (i := .invokevirtual 70) (len := 3) (r := (0, 153, 11, 852)) (nL := 2) (k := 0) (n := 2) (hs := []) (args := [.inl (some 0), zi y3180]) (rest := []) (l0 := [some (.inl (some 0)), some (zi y3180)]) (by decide +kernel) (Or.inr (Or.inl ⟨_, rfl⟩)) rfl rfl rfl rfl (Nat.le_of_ble_eq_true rfl) (zO hg (tv0 hg) aw0 rfl) rfl (qV_le (by decide) (c_fit (d := 0) (by omega))) (fun q3181 hR3181 => ?_)
  obtain rfl := hR3181
  refine y_same (i := .iload_n 1) (len := 1) (r := (0, 0, 0, 0)) (pc' := 20) (ls' := [some (.inl (some 0)), some (zi xw)]) (st' := [zi xw]) (by decide +kernel) (fun k q => by cases q) rfl ?_
  refine y_sw (dflt := 109) (lo := 0) (hi := 5) (offs := #[40, 54, 68, 82, 96, 104]) (off := 54) (pc' := 74) (len := 40) (r := (0, 0, 0, 0)) (by decide +kernel) (zswI (k := 1) (by omega) (by omega) (by omega) rfl) (by decide +kernel) ?_
  refine y_same (i := .aload_n 0) (len := 1) (r := (0, 0, 0, 0)) (pc' := 75) (ls' := [some (.inl (some 0)), some (zi xw)]) (st' := [.inl (some 0)]) (by decide +kernel) (fun k q => by cases q) rfl ?_
  refine y_get (j := 29) (len := 3) (r := (11, 5, 2, 404)) (by decide +kernel) hg (tv0 hg) aw0 rfl rfl r5 ?_
  refine y_get (j := 143) (len := 3) (r := (9, 1, 2, 20205)) (by decide +kernel) hg (tv2 hg) aw1000 rfl rfl b2z.2.1 ?_
  refine y_get (j := 109) (len := 3) (r := (8, 0, 2, 20182)) (by decide +kernel) hg tyz.2.1 aw1001 rfl rfl laz.2.1 ?_
  refine y_get (j := 126) (len := 3) (r := (6, 1, 0, 20168)) (by decide +kernel) hg tyz.2.2.1 aw1002 rfl rfl hp1z ?_
  refine y_rI (len := 1) (r := (0, 0, 0, 0)) (nL := 2) (k := 1) (n9 := 2) (hs := []) (by decide +kernel) rfl rfl ?_
  exact ⟨rfl, by omega⟩
theorem c_told2 {t T : Nat} {τ : List Nat} {h : zh} {cur : bsT} {hs : List bsT} {xw xT : Int32} (hg : hG τ h) (rc : RC h cur hs) (r5 : hsl h 0 5 = some (.inl (some 2))) (hT : hsl h 0 1 = some (zi xT)) (eT : xT.toInt = (T : Int)) (ok : (∀ (j : Nat) (i : it4), cur.1.1[j]? = some i → okI i) ∧ (∀ (j : Nat) (i : it4), cur.1.2[j]? = some i → okI i) ∧ (∀ (j : Nat) (i : it4), cur.2.1[j]? = some i → okI i) ∧ ∀ (j : Nat) (i : it4), cur.2.2[j]? = some i → okI i) (hw : xw.toInt = 2) : qI 21 139 [some (.inl (some 0)), some (zi xw)] h t (fun y h1 => h = h1 ∧ y.toInt = (cur.1.2.length : Int)) := by
  obtain ⟨-, -, -, -, -, -, -, -, ⟨xk, hk, ek⟩, -⟩ := id rc
  refine qI_of ?_
  obtain ⟨-, ⟨uz, vz, huz, l2z, b2z⟩, -⟩ := id rc
  have uuz : (uz = 1 ∧ vz = 6) ∨ (uz = 6 ∧ vz = 1) := huz
  have tyz := ty_u (tyB_of hg huz (tv2 hg) b2z.1 b2z.2.1 l2z) huz
  have laz := lay_u l2z huz
  obtain ⟨⟨⟨xp0z, hp0z, ep0z⟩, ip0z⟩, ⟨xc0z, hc0z, ec0z⟩, ic0z⟩ := b2z.2.2.1
  obtain ⟨⟨⟨xp1z, hp1z, ep1z⟩, ip1z⟩, ⟨xc1z, hc1z, ec1z⟩, ic1z⟩ := b2z.2.2.2
  refine y_same (i := .aload_n 0) (len := 1) (r := (0, 0, 0, 0)) (pc' := 1) (ls' := [some (.inl (some 0)), some (zi xw)]) (st' := [.inl (some 0)]) (by decide +kernel) (fun k q => by cases q) rfl ?_
  refine y_same (i := .iload_n 1) (len := 1) (r := (0, 0, 0, 0)) (pc' := 2) (ls' := [some (.inl (some 0)), some (zi xw)]) (st' := [zi xw, .inl (some 0)]) (by decide +kernel) (fun k q => by cases q) rfl ?_
  refine y_iF (c := .lt) (off := 13) (len := 3) (r := (0, 0, 0, 0)) (by decide +kernel) (acmpF (c := .lt) (by show _ ≤ _; omega)) ?_
  refine y_same (i := .iload_n 1) (len := 1) (r := (0, 0, 0, 0)) (pc' := 6) (ls' := [some (.inl (some 0)), some (zi xw)]) (st' := [zi xw, .inl (some 0)]) (by decide +kernel) (fun k q => by cases q) rfl ?_
  refine y_bi (c := 6) (len := 2) (r := (0, 0, 0, 0)) (by decide +kernel) (by decide) (fun y3182 hy3182 => ?_)
  refine y_cF (c := .gt) (off := 7) (len := 3) (r := (0, 0, 0, 0)) (by decide +kernel) (acmpF (c := .gt) (by show _ ≤ _; omega)) ?_
  refine y_ic (c := 1) (len := 1) (r := (0, 0, 0, 0)) (by decide +kernel) (by decide) (fun y3183 hy3183 => ?_)
  refine y_goto (off := 4) (pc' := 16) (len := 3) (r := (0, 0, 0, 0)) (by decide +kernel) (by decide +kernel) ?_
  refine y_cV (i := .invokevirtual 70) (len := 3) (r := (0, 153, 11, 852)) (nL := 2) (k := 0) (n := 2) (hs := []) (args := [.inl (some 0), zi y3183]) (rest := []) (l0 := [some (.inl (some 0)), some (zi y3183)]) (by decide +kernel) (Or.inr (Or.inl ⟨_, rfl⟩)) rfl rfl rfl rfl (Nat.le_of_ble_eq_true rfl) (zO hg (tv0 hg) aw0 rfl) rfl (qV_le (by decide) (c_fit (d := 0) (by omega))) (fun q3184 hR3184 => ?_)
  obtain rfl := hR3184
  refine y_same (i := .iload_n 1) (len := 1) (r := (0, 0, 0, 0)) (pc' := 20) (ls' := [some (.inl (some 0)), some (zi xw)]) (st' := [zi xw]) (by decide +kernel) (fun k q => by cases q) rfl ?_
  refine y_sw (dflt := 109) (lo := 0) (hi := 5) (offs := #[40, 54, 68, 82, 96, 104]) (off := 68) (pc' := 88) (len := 40) (r := (0, 0, 0, 0)) (by decide +kernel) (zswI (k := 2) (by omega) (by omega) (by omega) rfl) (by decide +kernel) ?_
  refine y_same (i := .aload_n 0) (len := 1) (r := (0, 0, 0, 0)) (pc' := 89) (ls' := [some (.inl (some 0)), some (zi xw)]) (st' := [.inl (some 0)]) (by decide +kernel) (fun k q => by cases q) rfl ?_
  refine y_get (j := 29) (len := 3) (r := (11, 5, 2, 404)) (by decide +kernel) hg (tv0 hg) aw0 rfl rfl r5 ?_
  refine y_get (j := 139) (len := 3) (r := (9, 0, 2, 20201)) (by decide +kernel) hg (tv2 hg) aw1000 rfl rfl b2z.1 ?_
  refine y_get (j := 129) (len := 3) (r := (8, 1, 2, 20188)) (by decide +kernel) hg tyz.1.1 aw1001 rfl rfl laz.1.2.1 ?_
  refine y_get (j := 126) (len := 3) (r := (6, 1, 0, 20168)) (by decide +kernel) hg tyz.1.2.2.2.1 aw1003 rfl rfl hc0z ?_
  refine y_rI (len := 1) (r := (0, 0, 0, 0)) (nL := 2) (k := 1) (n9 := 2) (hs := []) (by decide +kernel) rfl rfl ?_
  exact ⟨rfl, by omega⟩
theorem c_told3 {t T : Nat} {τ : List Nat} {h : zh} {cur : bsT} {hs : List bsT} {xw xT : Int32} (hg : hG τ h) (rc : RC h cur hs) (r5 : hsl h 0 5 = some (.inl (some 2))) (hT : hsl h 0 1 = some (zi xT)) (eT : xT.toInt = (T : Int)) (ok : (∀ (j : Nat) (i : it4), cur.1.1[j]? = some i → okI i) ∧ (∀ (j : Nat) (i : it4), cur.1.2[j]? = some i → okI i) ∧ (∀ (j : Nat) (i : it4), cur.2.1[j]? = some i → okI i) ∧ ∀ (j : Nat) (i : it4), cur.2.2[j]? = some i → okI i) (hw : xw.toInt = 3) : qI 21 139 [some (.inl (some 0)), some (zi xw)] h t (fun y h1 => h = h1 ∧ y.toInt = (cur.2.2.length : Int)) := by
  obtain ⟨-, -, -, -, -, -, -, -, ⟨xk, hk, ek⟩, -⟩ := id rc
  refine qI_of ?_
  obtain ⟨-, ⟨uz, vz, huz, l2z, b2z⟩, -⟩ := id rc
  have uuz : (uz = 1 ∧ vz = 6) ∨ (uz = 6 ∧ vz = 1) := huz
  have tyz := ty_u (tyB_of hg huz (tv2 hg) b2z.1 b2z.2.1 l2z) huz
  have laz := lay_u l2z huz
  obtain ⟨⟨⟨xp0z, hp0z, ep0z⟩, ip0z⟩, ⟨xc0z, hc0z, ec0z⟩, ic0z⟩ := b2z.2.2.1
  obtain ⟨⟨⟨xp1z, hp1z, ep1z⟩, ip1z⟩, ⟨xc1z, hc1z, ec1z⟩, ic1z⟩ := b2z.2.2.2
  refine y_same (i := .aload_n 0) (len := 1) (r := (0, 0, 0, 0)) (pc' := 1) (ls' := [some (.inl (some 0)), some (zi xw)]) (st' := [.inl (some 0)]) (by decide +kernel) (fun k q => by cases q) rfl ?_
  refine y_same (i := .iload_n 1) (len := 1) (r := (0, 0, 0, 0)) (pc' := 2) (ls' := [some (.inl (some 0)), some (zi xw)]) (st' := [zi xw, .inl (some 0)]) (by decide +kernel) (fun k q => by cases q) rfl ?_
  refine y_iF (c := .lt) (off := 13) (len := 3) (r := (0, 0, 0, 0)) (by decide +kernel) (acmpF (c := .lt) (by show _ ≤ _; omega)) ?_
  refine y_same (i := .iload_n 1) (len := 1) (r := (0, 0, 0, 0)) (pc' := 6) (ls' := [some (.inl (some 0)), some (zi xw)]) (st' := [zi xw, .inl (some 0)]) (by decide +kernel) (fun k q => by cases q) rfl ?_
  refine y_bi (c := 6) (len := 2) (r := (0, 0, 0, 0)) (by decide +kernel) (by decide) (fun y3185 hy3185 => ?_)
  refine y_cF (c := .gt) (off := 7) (len := 3) (r := (0, 0, 0, 0)) (by decide +kernel) (acmpF (c := .gt) (by show _ ≤ _; omega)) ?_
  refine y_ic (c := 1) (len := 1) (r := (0, 0, 0, 0)) (by decide +kernel) (by decide) (fun y3186 hy3186 => ?_)
  refine y_goto (off := 4) (pc' := 16) (len := 3) (r := (0, 0, 0, 0)) (by decide +kernel) (by decide +kernel) ?_
  refine y_cV (i := .invokevirtual 70) (len := 3) (r := (0, 153, 11, 852)) (nL := 2) (k := 0) (n := 2) (hs := []) (args := [.inl (some 0), zi y3186]) (rest := []) (l0 := [some (.inl (some 0)), some (zi y3186)]) (by decide +kernel) (Or.inr (Or.inl ⟨_, rfl⟩)) rfl rfl rfl rfl (Nat.le_of_ble_eq_true rfl) (zO hg (tv0 hg) aw0 rfl) rfl (qV_le (by decide) (c_fit (d := 0) (by omega))) (fun q3187 hR3187 => ?_)
  obtain rfl := hR3187
  refine y_same (i := .iload_n 1) (len := 1) (r := (0, 0, 0, 0)) (pc' := 20) (ls' := [some (.inl (some 0)), some (zi xw)]) (st' := [zi xw]) (by decide +kernel) (fun k q => by cases q) rfl ?_
  refine y_sw (dflt := 109) (lo := 0) (hi := 5) (offs := #[40, 54, 68, 82, 96, 104]) (off := 82) (pc' := 102) (len := 40) (r := (0, 0, 0, 0)) (by decide +kernel) (zswI (k := 3) (by omega) (by omega) (by omega) rfl) (by decide +kernel) ?_
  refine y_same (i := .aload_n 0) (len := 1) (r := (0, 0, 0, 0)) (pc' := 103) (ls' := [some (.inl (some 0)), some (zi xw)]) (st' := [.inl (some 0)]) (by decide +kernel) (fun k q => by cases q) rfl ?_
  refine y_get (j := 29) (len := 3) (r := (11, 5, 2, 404)) (by decide +kernel) hg (tv0 hg) aw0 rfl rfl r5 ?_
  refine y_get (j := 143) (len := 3) (r := (9, 1, 2, 20205)) (by decide +kernel) hg (tv2 hg) aw1000 rfl rfl b2z.2.1 ?_
  refine y_get (j := 129) (len := 3) (r := (8, 1, 2, 20188)) (by decide +kernel) hg tyz.2.1 aw1001 rfl rfl laz.2.2.1 ?_
  refine y_get (j := 126) (len := 3) (r := (6, 1, 0, 20168)) (by decide +kernel) hg tyz.2.2.2.2.1 aw1003 rfl rfl hc1z ?_
  refine y_rI (len := 1) (r := (0, 0, 0, 0)) (nL := 2) (k := 1) (n9 := 2) (hs := []) (by decide +kernel) rfl rfl ?_
  exact ⟨rfl, by omega⟩
theorem c_told4 {t T : Nat} {τ : List Nat} {h : zh} {cur : bsT} {hs : List bsT} {xw xT : Int32} (hg : hG τ h) (rc : RC h cur hs) (r5 : hsl h 0 5 = some (.inl (some 2))) (hT : hsl h 0 1 = some (zi xT)) (eT : xT.toInt = (T : Int)) (ok : (∀ (j : Nat) (i : it4), cur.1.1[j]? = some i → okI i) ∧ (∀ (j : Nat) (i : it4), cur.1.2[j]? = some i → okI i) ∧ (∀ (j : Nat) (i : it4), cur.2.1[j]? = some i → okI i) ∧ ∀ (j : Nat) (i : it4), cur.2.2[j]? = some i → okI i) (hw : xw.toInt = 4) : qI 21 139 [some (.inl (some 0)), some (zi xw)] h t (fun y h1 => h = h1 ∧ y.toInt = (pop6 (letN cur) : Int)) := by
  obtain ⟨-, -, -, -, -, -, -, -, ⟨xk, hk, ek⟩, -⟩ := id rc
  refine qI_of ?_
  obtain ⟨-, ⟨uz, vz, huz, l2z, b2z⟩, -⟩ := id rc
  have uuz : (uz = 1 ∧ vz = 6) ∨ (uz = 6 ∧ vz = 1) := huz
  have tyz := ty_u (tyB_of hg huz (tv2 hg) b2z.1 b2z.2.1 l2z) huz
  have laz := lay_u l2z huz
  obtain ⟨⟨⟨xp0z, hp0z, ep0z⟩, ip0z⟩, ⟨xc0z, hc0z, ec0z⟩, ic0z⟩ := b2z.2.2.1
  obtain ⟨⟨⟨xp1z, hp1z, ep1z⟩, ip1z⟩, ⟨xc1z, hc1z, ec1z⟩, ic1z⟩ := b2z.2.2.2
  refine y_same (i := .aload_n 0) (len := 1) (r := (0, 0, 0, 0)) (pc' := 1) (ls' := [some (.inl (some 0)), some (zi xw)]) (st' := [.inl (some 0)]) (by decide +kernel) (fun k q => by cases q) rfl ?_
  refine y_same (i := .iload_n 1) (len := 1) (r := (0, 0, 0, 0)) (pc' := 2) (ls' := [some (.inl (some 0)), some (zi xw)]) (st' := [zi xw, .inl (some 0)]) (by decide +kernel) (fun k q => by cases q) rfl ?_
  refine y_iF (c := .lt) (off := 13) (len := 3) (r := (0, 0, 0, 0)) (by decide +kernel) (acmpF (c := .lt) (by show _ ≤ _; omega)) ?_
  refine y_same (i := .iload_n 1) (len := 1) (r := (0, 0, 0, 0)) (pc' := 6) (ls' := [some (.inl (some 0)), some (zi xw)]) (st' := [zi xw, .inl (some 0)]) (by decide +kernel) (fun k q => by cases q) rfl ?_
  refine y_bi (c := 6) (len := 2) (r := (0, 0, 0, 0)) (by decide +kernel) (by decide) (fun y3188 hy3188 => ?_)
  refine y_cF (c := .gt) (off := 7) (len := 3) (r := (0, 0, 0, 0)) (by decide +kernel) (acmpF (c := .gt) (by show _ ≤ _; omega)) ?_
  refine y_ic (c := 1) (len := 1) (r := (0, 0, 0, 0)) (by decide +kernel) (by decide) (fun y3189 hy3189 => ?_)
  refine y_goto (off := 4) (pc' := 16) (len := 3) (r := (0, 0, 0, 0)) (by decide +kernel) (by decide +kernel) ?_
  refine y_cV (i := .invokevirtual 70) (len := 3) (r := (0, 153, 11, 852)) (nL := 2) (k := 0) (n := 2) (hs := []) (args := [.inl (some 0), zi y3189]) (rest := []) (l0 := [some (.inl (some 0)), some (zi y3189)]) (by decide +kernel) (Or.inr (Or.inl ⟨_, rfl⟩)) rfl rfl rfl rfl (Nat.le_of_ble_eq_true rfl) (zO hg (tv0 hg) aw0 rfl) rfl (qV_le (by decide) (c_fit (d := 0) (by omega))) (fun q3190 hR3190 => ?_)
  obtain rfl := hR3190
  refine y_same (i := .iload_n 1) (len := 1) (r := (0, 0, 0, 0)) (pc' := 20) (ls' := [some (.inl (some 0)), some (zi xw)]) (st' := [zi xw]) (by decide +kernel) (fun k q => by cases q) rfl ?_
  refine y_sw (dflt := 109) (lo := 0) (hi := 5) (offs := #[40, 54, 68, 82, 96, 104]) (off := 96) (pc' := 116) (len := 40) (r := (0, 0, 0, 0)) (by decide +kernel) (zswI (k := 4) (by omega) (by omega) (by omega) rfl) (by decide +kernel) ?_
  refine y_same (i := .aload_n 0) (len := 1) (r := (0, 0, 0, 0)) (pc' := 117) (ls' := [some (.inl (some 0)), some (zi xw)]) (st' := [.inl (some 0)]) (by decide +kernel) (fun k q => by cases q) rfl ?_
  refine y_get (j := 29) (len := 3) (r := (11, 5, 2, 404)) (by decide +kernel) hg (tv0 hg) aw0 rfl rfl r5 ?_
  refine y_cI (i := .invokevirtual 146) (len := 3) (r := (0, 113, 9, 1114)) (nL := 1) (k := 1) (n := 1) (hs := []) (args := [.inl (some 2)]) (rest := []) (l0 := [some (.inl (some 2))]) (by decide +kernel) (Or.inr (Or.inl ⟨_, rfl⟩)) rfl rfl rfl rfl (Nat.le_of_ble_eq_true rfl) (zO hg (tv2 hg) aw1000 rfl) rfl (qI_le (by decide) (c_cl (d := 0) hg rc ok)) (fun y3191 qy3191 hRy3191 => ?_)
  obtain ⟨rfl, ey3191⟩ := hRy3191
  refine y_rI (len := 1) (r := (0, 0, 0, 0)) (nL := 2) (k := 1) (n9 := 2) (hs := []) (by decide +kernel) rfl rfl ?_
  exact ⟨rfl, by omega⟩
theorem c_told5 {t T : Nat} {τ : List Nat} {h : zh} {cur : bsT} {hs : List bsT} {xw xT : Int32} (hg : hG τ h) (rc : RC h cur hs) (r5 : hsl h 0 5 = some (.inl (some 2))) (hT : hsl h 0 1 = some (zi xT)) (eT : xT.toInt = (T : Int)) (ok : (∀ (j : Nat) (i : it4), cur.1.1[j]? = some i → okI i) ∧ (∀ (j : Nat) (i : it4), cur.1.2[j]? = some i → okI i) ∧ (∀ (j : Nat) (i : it4), cur.2.1[j]? = some i → okI i) ∧ ∀ (j : Nat) (i : it4), cur.2.2[j]? = some i → okI i) (hw : xw.toInt = 5) : qI 21 139 [some (.inl (some 0)), some (zi xw)] h t (fun y h1 => h = h1 ∧ y.toInt = (T : Int)) := by
  obtain ⟨-, -, -, -, -, -, -, -, ⟨xk, hk, ek⟩, -⟩ := id rc
  refine qI_of ?_
  obtain ⟨-, ⟨uz, vz, huz, l2z, b2z⟩, -⟩ := id rc
  have uuz : (uz = 1 ∧ vz = 6) ∨ (uz = 6 ∧ vz = 1) := huz
  have tyz := ty_u (tyB_of hg huz (tv2 hg) b2z.1 b2z.2.1 l2z) huz
  have laz := lay_u l2z huz
  obtain ⟨⟨⟨xp0z, hp0z, ep0z⟩, ip0z⟩, ⟨xc0z, hc0z, ec0z⟩, ic0z⟩ := b2z.2.2.1
  obtain ⟨⟨⟨xp1z, hp1z, ep1z⟩, ip1z⟩, ⟨xc1z, hc1z, ec1z⟩, ic1z⟩ := b2z.2.2.2
  refine y_same (i := .aload_n 0) (len := 1) (r := (0, 0, 0, 0)) (pc' := 1) (ls' := [some (.inl (some 0)), some (zi xw)]) (st' := [.inl (some 0)]) (by decide +kernel) (fun k q => by cases q) rfl ?_
  refine y_same (i := .iload_n 1) (len := 1) (r := (0, 0, 0, 0)) (pc' := 2) (ls' := [some (.inl (some 0)), some (zi xw)]) (st' := [zi xw, .inl (some 0)]) (by decide +kernel) (fun k q => by cases q) rfl ?_
  refine y_iF (c := .lt) (off := 13) (len := 3) (r := (0, 0, 0, 0)) (by decide +kernel) (acmpF (c := .lt) (by show _ ≤ _; omega)) ?_
  refine y_same (i := .iload_n 1) (len := 1) (r := (0, 0, 0, 0)) (pc' := 6) (ls' := [some (.inl (some 0)), some (zi xw)]) (st' := [zi xw, .inl (some 0)]) (by decide +kernel) (fun k q => by cases q) rfl ?_
  refine y_bi (c := 6) (len := 2) (r := (0, 0, 0, 0)) (by decide +kernel) (by decide) (fun y3192 hy3192 => ?_)
  refine y_cF (c := .gt) (off := 7) (len := 3) (r := (0, 0, 0, 0)) (by decide +kernel) (acmpF (c := .gt) (by show _ ≤ _; omega)) ?_
  refine y_ic (c := 1) (len := 1) (r := (0, 0, 0, 0)) (by decide +kernel) (by decide) (fun y3193 hy3193 => ?_)
  refine y_goto (off := 4) (pc' := 16) (len := 3) (r := (0, 0, 0, 0)) (by decide +kernel) (by decide +kernel) ?_
  refine y_cV (i := .invokevirtual 70) (len := 3) (r := (0, 153, 11, 852)) (nL := 2) (k := 0) (n := 2) (hs := []) (args := [.inl (some 0), zi y3193]) (rest := []) (l0 := [some (.inl (some 0)), some (zi y3193)]) (by decide +kernel) (Or.inr (Or.inl ⟨_, rfl⟩)) rfl rfl rfl rfl (Nat.le_of_ble_eq_true rfl) (zO hg (tv0 hg) aw0 rfl) rfl (qV_le (by decide) (c_fit (d := 0) (by omega))) (fun q3194 hR3194 => ?_)
  obtain rfl := hR3194
  refine y_same (i := .iload_n 1) (len := 1) (r := (0, 0, 0, 0)) (pc' := 20) (ls' := [some (.inl (some 0)), some (zi xw)]) (st' := [zi xw]) (by decide +kernel) (fun k q => by cases q) rfl ?_
  refine y_sw (dflt := 109) (lo := 0) (hi := 5) (offs := #[40, 54, 68, 82, 96, 104]) (off := 104) (pc' := 124) (len := 40) (r := (0, 0, 0, 0)) (by decide +kernel) (zswI (k := 5) (by omega) (by omega) (by omega) rfl) (by decide +kernel) ?_
  refine y_same (i := .aload_n 0) (len := 1) (r := (0, 0, 0, 0)) (pc' := 125) (ls' := [some (.inl (some 0)), some (zi xw)]) (st' := [.inl (some 0)]) (by decide +kernel) (fun k q => by cases q) rfl ?_
  refine y_get (j := 13) (len := 3) (r := (11, 1, 0, 400)) (by decide +kernel) hg (tv0 hg) aw0 rfl rfl hT ?_
  refine y_rI (len := 1) (r := (0, 0, 0, 0)) (nL := 2) (k := 1) (n9 := 2) (hs := []) (by decide +kernel) rfl rfl ?_
  exact ⟨rfl, by omega⟩
theorem c_told6 {t T : Nat} {τ : List Nat} {h : zh} {cur : bsT} {hs : List bsT} {xw xT : Int32} (hg : hG τ h) (rc : RC h cur hs) (r5 : hsl h 0 5 = some (.inl (some 2))) (hT : hsl h 0 1 = some (zi xT)) (eT : xT.toInt = (T : Int)) (ok : (∀ (j : Nat) (i : it4), cur.1.1[j]? = some i → okI i) ∧ (∀ (j : Nat) (i : it4), cur.1.2[j]? = some i → okI i) ∧ (∀ (j : Nat) (i : it4), cur.2.1[j]? = some i → okI i) ∧ ∀ (j : Nat) (i : it4), cur.2.2[j]? = some i → okI i) (hw : xw.toInt = 6) : qI 21 139 [some (.inl (some 0)), some (zi xw)] h t (fun y h1 => h = h1 ∧ y.toInt = (hs.length : Int)) := by
  obtain ⟨-, -, -, -, -, -, -, -, ⟨xk, hk, ek⟩, -⟩ := id rc
  refine qI_of ?_
  obtain ⟨-, ⟨uz, vz, huz, l2z, b2z⟩, -⟩ := id rc
  have uuz : (uz = 1 ∧ vz = 6) ∨ (uz = 6 ∧ vz = 1) := huz
  have tyz := ty_u (tyB_of hg huz (tv2 hg) b2z.1 b2z.2.1 l2z) huz
  have laz := lay_u l2z huz
  obtain ⟨⟨⟨xp0z, hp0z, ep0z⟩, ip0z⟩, ⟨xc0z, hc0z, ec0z⟩, ic0z⟩ := b2z.2.2.1
  obtain ⟨⟨⟨xp1z, hp1z, ep1z⟩, ip1z⟩, ⟨xc1z, hc1z, ec1z⟩, ic1z⟩ := b2z.2.2.2
  refine y_same (i := .aload_n 0) (len := 1) (r := (0, 0, 0, 0)) (pc' := 1) (ls' := [some (.inl (some 0)), some (zi xw)]) (st' := [.inl (some 0)]) (by decide +kernel) (fun k q => by cases q) rfl ?_
  refine y_same (i := .iload_n 1) (len := 1) (r := (0, 0, 0, 0)) (pc' := 2) (ls' := [some (.inl (some 0)), some (zi xw)]) (st' := [zi xw, .inl (some 0)]) (by decide +kernel) (fun k q => by cases q) rfl ?_
  refine y_iF (c := .lt) (off := 13) (len := 3) (r := (0, 0, 0, 0)) (by decide +kernel) (acmpF (c := .lt) (by show _ ≤ _; omega)) ?_
  refine y_same (i := .iload_n 1) (len := 1) (r := (0, 0, 0, 0)) (pc' := 6) (ls' := [some (.inl (some 0)), some (zi xw)]) (st' := [zi xw, .inl (some 0)]) (by decide +kernel) (fun k q => by cases q) rfl ?_
  refine y_bi (c := 6) (len := 2) (r := (0, 0, 0, 0)) (by decide +kernel) (by decide) (fun y3195 hy3195 => ?_)
  refine y_cF (c := .gt) (off := 7) (len := 3) (r := (0, 0, 0, 0)) (by decide +kernel) (acmpF (c := .gt) (by show _ ≤ _; omega)) ?_
  refine y_ic (c := 1) (len := 1) (r := (0, 0, 0, 0)) (by decide +kernel) (by decide) (fun y3196 hy3196 => ?_)
  refine y_goto (off := 4) (pc' := 16) (len := 3) (r := (0, 0, 0, 0)) (by decide +kernel) (by decide +kernel) ?_
  refine y_cV (i := .invokevirtual 70) (len := 3) (r := (0, 153, 11, 852)) (nL := 2) (k := 0) (n := 2) (hs := []) (args := [.inl (some 0), zi y3196]) (rest := []) (l0 := [some (.inl (some 0)), some (zi y3196)]) (by decide +kernel) (Or.inr (Or.inl ⟨_, rfl⟩)) rfl rfl rfl rfl (Nat.le_of_ble_eq_true rfl) (zO hg (tv0 hg) aw0 rfl) rfl (qV_le (by decide) (c_fit (d := 0) (by omega))) (fun q3197 hR3197 => ?_)
  obtain rfl := hR3197
  refine y_same (i := .iload_n 1) (len := 1) (r := (0, 0, 0, 0)) (pc' := 20) (ls' := [some (.inl (some 0)), some (zi xw)]) (st' := [zi xw]) (by decide +kernel) (fun k q => by cases q) rfl ?_
  refine y_sw (dflt := 109) (lo := 0) (hi := 5) (offs := #[40, 54, 68, 82, 96, 104]) (off := 109) (pc' := 129) (len := 40) (r := (0, 0, 0, 0)) (by decide +kernel) (zswO (by omega)) (by decide +kernel) ?_
  refine y_same (i := .aload_n 0) (len := 1) (r := (0, 0, 0, 0)) (pc' := 130) (ls' := [some (.inl (some 0)), some (zi xw)]) (st' := [.inl (some 0)]) (by decide +kernel) (fun k q => by cases q) rfl ?_
  refine y_get (j := 36) (len := 3) (r := (11, 6, 2, 405)) (by decide +kernel) hg (tv0 hg) aw0 rfl rfl (g_rU (f := 6) (T2 := 13) hg (tv0 hg) aw0 rfl (by decide)) ?_
  refine y_get (j := 136) (len := 3) (r := (2, 2, 0, 20223)) (by decide +kernel) hg (tv13 hg) aw13 rfl rfl hk ?_
  refine y_rI (len := 1) (r := (0, 0, 0, 0)) (nL := 2) (k := 1) (n9 := 2) (hs := []) (by decide +kernel) rfl rfl ?_
  exact ⟨rfl, by omega⟩
theorem c_toldX {t : Nat} {τ : List Nat} {h : zh} {xw : Int32} (hg : hG τ h) (hw : ¬ (0 ≤ xw.toInt ∧ xw.toInt ≤ 6)) : qT 21 139 [some (.inl (some 0)), some (zi xw)] h t 1 (fun h1 => hG τ h1 ∧ ∀ k j, (k ≠ 0 ∨ j ≠ 4) → hsl h1 k j = hsl h k j) := by
  refine qT_of ?_
  refine y_same (i := .aload_n 0) (len := 1) (r := (0, 0, 0, 0)) (pc' := 1) (ls' := [some (.inl (some 0)), some (zi xw)]) (st' := [.inl (some 0)]) (by decide +kernel) (fun k q => by cases q) rfl ?_
  refine y_same (i := .iload_n 1) (len := 1) (r := (0, 0, 0, 0)) (pc' := 2) (ls' := [some (.inl (some 0)), some (zi xw)]) (st' := [zi xw, .inl (some 0)]) (by decide +kernel) (fun k q => by cases q) rfl ?_
  rcases Decidable.em (xw.toInt < 0) with q3198 | q3198
  ·
    refine y_iT (c := .lt) (off := 13) (pc' := 15) (len := 3) (r := (0, 0, 0, 0)) (by decide +kernel) (acmpT (c := .lt) (by show _ < _; omega)) (by decide +kernel) ?_
    refine y_ic (c := 0) (len := 1) (r := (0, 0, 0, 0)) (by decide +kernel) (by decide) (fun y3199 hy3199 => ?_)
    refine y_cX (i := .invokevirtual 70) (len := 3) (r := (0, 153, 11, 852)) (nL := 2) (k := 0) (n := 2) (hs := []) (args := [.inl (some 0), zi y3199]) (rest := []) (l0 := [some (.inl (some 0)), some (zi y3199)]) (by decide +kernel) (Or.inr (Or.inl ⟨_, rfl⟩)) rfl rfl rfl rfl (Nat.le_of_ble_eq_true rfl) (zO hg (tv0 hg) aw0 rfl) rfl rfl (mL := 2) (mk := 1) (m9 := 2) (ms := []) rfl rfl (qT_le (by decide) (c_fitT (d := 0) hg (by omega))) (fun h3200 hR3200 => ?_)
    obtain ⟨hg3200, F3200⟩ := hR3200
    exact ⟨_, rfl, hg3200, fun k j hC => (F3200 k j (by omega))⟩
  ·
    refine y_iF (c := .lt) (off := 13) (len := 3) (r := (0, 0, 0, 0)) (by decide +kernel) (acmpF (c := .lt) (by show _ ≤ _; omega)) ?_
    refine y_same (i := .iload_n 1) (len := 1) (r := (0, 0, 0, 0)) (pc' := 6) (ls' := [some (.inl (some 0)), some (zi xw)]) (st' := [zi xw, .inl (some 0)]) (by decide +kernel) (fun k q => by cases q) rfl ?_
    refine y_bi (c := 6) (len := 2) (r := (0, 0, 0, 0)) (by decide +kernel) (by decide) (fun y3201 hy3201 => ?_)
    rcases Decidable.em (xw.toInt > y3201.toInt) with q3202 | q3202
    ·
      refine y_cT (c := .gt) (off := 7) (pc' := 15) (len := 3) (r := (0, 0, 0, 0)) (by decide +kernel) (acmpT (c := .gt) (by show _ < _; omega)) (by decide +kernel) ?_
      refine y_ic (c := 0) (len := 1) (r := (0, 0, 0, 0)) (by decide +kernel) (by decide) (fun y3203 hy3203 => ?_)
      refine y_cX (i := .invokevirtual 70) (len := 3) (r := (0, 153, 11, 852)) (nL := 2) (k := 0) (n := 2) (hs := []) (args := [.inl (some 0), zi y3203]) (rest := []) (l0 := [some (.inl (some 0)), some (zi y3203)]) (by decide +kernel) (Or.inr (Or.inl ⟨_, rfl⟩)) rfl rfl rfl rfl (Nat.le_of_ble_eq_true rfl) (zO hg (tv0 hg) aw0 rfl) rfl rfl (mL := 2) (mk := 1) (m9 := 2) (ms := []) rfl rfl (qT_le (by decide) (c_fitT (d := 0) hg (by omega))) (fun h3204 hR3204 => ?_)
      obtain ⟨hg3204, F3204⟩ := hR3204
      exact ⟨_, rfl, hg3204, fun k j hC => (F3204 k j (by omega))⟩
    ·
      refine y_cF (c := .gt) (off := 7) (len := 3) (r := (0, 0, 0, 0)) (by decide +kernel) (acmpF (c := .gt) (by show _ ≤ _; omega)) ?_
      refine y_ic (c := 1) (len := 1) (r := (0, 0, 0, 0)) (by decide +kernel) (by decide) (fun y3205 hy3205 => ?_)
      refine y_goto (off := 4) (pc' := 16) (len := 3) (r := (0, 0, 0, 0)) (by decide +kernel) (by decide +kernel) ?_
      exfalso
      omega
theorem c_ltoldX {t : Nat} {τ : List Nat} {h : zh} {xw : Int32} (hg : hG τ h) (hw : ¬ (0 ≤ xw.toInt ∧ xw.toInt ≤ 6)) : ∃ (y : Int32) (h1 : zh), qE 60 279 [some (.inl (some 0)), some (zi xw), some (.inl (some 388)), none] h t (.inl (some (zi y)), h1, t + 1) ∧ y.toInt = 1 ∧ hG τ h1 ∧ ∀ k j, (k ≠ 0 ∨ j ≠ 4) → hsl h1 k j = hsl h k j := by
  have key : qX 31 279 0 [some (.inl (some 0)), some (zi xw), some (.inl (some 388)), none] [] h t (rI (fun y h1 => y.toInt = 1 ∧ hG τ h1 ∧ ∀ k j, (k ≠ 0 ∨ j ≠ 4) → hsl h1 k j = hsl h k j) (t + 1)) := by
    refine y_same (i := .aload_n 2) (len := 1) (r := (0, 0, 0, 0)) (pc' := 1) (ls' := [some (.inl (some 0)), some (zi xw), some (.inl (some 388)), none]) (st' := [.inl (some 388)]) (by decide +kernel) (fun k q => by cases q) rfl ?_
    refine y_ic (c := 0) (len := 1) (r := (0, 0, 0, 0)) (by decide +kernel) (by decide) (fun y3206 hy3206 => ?_)
    refine y_same (i := .aload_n 0) (len := 1) (r := (0, 0, 0, 0)) (pc' := 3) (ls' := [some (.inl (some 0)), some (zi xw), some (.inl (some 388)), none]) (st' := [.inl (some 0), zi y3206, .inl (some 388)]) (by decide +kernel) (fun k q => by cases q) rfl ?_
    refine y_same (i := .iload_n 1) (len := 1) (r := (0, 0, 0, 0)) (pc' := 4) (ls' := [some (.inl (some 0)), some (zi xw), some (.inl (some 388)), none]) (st' := [zi xw, .inl (some 0), zi y3206, .inl (some 388)]) (by decide +kernel) (fun k q => by cases q) rfl ?_
    refine y_cC (i := .invokevirtual 24) (len := 3) (r := (0, 139, 11, 1110)) (nL := 2) (k := 1) (n := 2) (hs := []) (args := [.inl (some 0), zi xw]) (rest := [zi y3206, .inl (some 388)]) (l0 := [some (.inl (some 0)), some (zi xw)]) (by decide +kernel) (Or.inr (Or.inl ⟨_, rfl⟩)) rfl rfl rfl rfl (Nat.le_of_ble_eq_true rfl) (zO hg (tv0 hg) aw0 rfl) rfl rfl (mL := 4) (mk := 1) (m9 := 3) (ms := [(0, 9, 12, 1)]) rfl rfl (qT_le (by decide) (c_toldX hg hw)) (fun h3207 hR3207 => ?_)
    obtain ⟨hg3207, F3207⟩ := hR3207
    refine y_same (i := .astore_n 3) (len := 1) (r := (0, 0, 0, 0)) (pc' := 13) (ls' := [some (.inl (some 0)), some (zi xw), some (.inl (some 388)), some (.inl (some 1000001))]) (st' := []) (by decide +kernel) (fun k q => by cases q) rfl ?_
    refine y_ic (c := 1) (len := 1) (r := (0, 0, 0, 0)) (by decide +kernel) (by decide) (fun y3208 hy3208 => ?_)
    refine y_rI (len := 1) (r := (0, 0, 0, 0)) (nL := 4) (k := 1) (n9 := 3) (hs := [(0, 9, 12, 1)]) (by decide +kernel) rfl rfl ?_
    exact ⟨by omega, hg3207, fun k j hC => (F3207 k j (by omega))⟩
  obtain ⟨x, k, y, h1, rfl, hR⟩ := key
  exact ⟨y, h1, qE_le (by decide) (qE_of k), hR⟩
theorem c_ltold {t : Nat} {v : Int} {τ : List Nat} {h : zh} {xw : Int32} (hg : hG τ h) (hin : qI 21 139 [some (.inl (some 0)), some (zi xw)] h t (fun y h1 => h = h1 ∧ y.toInt = v)) : qI 60 279 [some (.inl (some 0)), some (zi xw), some (.inl (some 388)), none] h t (fun y h1 => hG τ h1 ∧ y.toInt = 0 ∧ (∀ k j, k ≠ 388 → hsl h1 k j = hsl h k j) ∧ ∃ z : Int32, ou_ h1 z ∧ z.toInt = v) := by
  refine qI_le (d := 32) (by decide) (qI_of ?_)
  refine y_same (i := .aload_n 2) (len := 1) (r := (0, 0, 0, 0)) (pc' := 1) (ls' := [some (.inl (some 0)), some (zi xw), some (.inl (some 388)), none]) (st' := [.inl (some 388)]) (by decide +kernel) (fun k q => by cases q) rfl ?_
  refine y_ic (c := 0) (len := 1) (r := (0, 0, 0, 0)) (by decide +kernel) (by decide) (fun y3209 hy3209 => ?_)
  refine y_same (i := .aload_n 0) (len := 1) (r := (0, 0, 0, 0)) (pc' := 3) (ls' := [some (.inl (some 0)), some (zi xw), some (.inl (some 388)), none]) (st' := [.inl (some 0), zi y3209, .inl (some 388)]) (by decide +kernel) (fun k q => by cases q) rfl ?_
  refine y_same (i := .iload_n 1) (len := 1) (r := (0, 0, 0, 0)) (pc' := 4) (ls' := [some (.inl (some 0)), some (zi xw), some (.inl (some 388)), none]) (st' := [zi xw, .inl (some 0), zi y3209, .inl (some 388)]) (by decide +kernel) (fun k q => by cases q) rfl ?_
  refine y_cI (i := .invokevirtual 24) (len := 3) (r := (0, 139, 11, 1110)) (nL := 2) (k := 1) (n := 2) (hs := []) (args := [.inl (some 0), zi xw]) (rest := [zi y3209, .inl (some 388)]) (l0 := [some (.inl (some 0)), some (zi xw)]) (by decide +kernel) (Or.inr (Or.inl ⟨_, rfl⟩)) rfl rfl rfl rfl (Nat.le_of_ble_eq_true rfl) (zO hg (tv0 hg) aw0 rfl) rfl (qI_le (by decide) hin) (fun y3210 q3210 hRy3210 => ?_)
  obtain ⟨rfl, ey⟩ := hRy3210
  refine y_i2l2 (len := 1) (r := (0, 0, 0, 0)) (by decide +kernel) ?_
  refine y_las2 (i := 0) (len := 1) (r := (0, 0, 0, 0)) (by decide +kernel) hg (t388 hg) aw388 rfl (by omega) (by omega) rfl (fun h3211 hg3211 hw3211 ho3211 => ?_)
  refine y_goto (off := 6) (pc' := 15) (len := 3) (r := (0, 0, 0, 0)) (by decide +kernel) (by decide +kernel) ?_
  refine y_ic (c := 0) (len := 1) (r := (0, 0, 0, 0)) (by decide +kernel) (by decide) (fun y3212 hy3212 => ?_)
  refine y_rI (len := 1) (r := (0, 0, 0, 0)) (nL := 4) (k := 1) (n9 := 3) (hs := [(0, 9, 12, 1)]) (by decide +kernel) rfl rfl ?_
  exact ⟨hg3211, by omega, fun k j hC => (ho3211 k j (by omega)), _, hw3211, ey⟩
theorem mv_p0 {t : Nat} {τ : List Nat} {h : zh} {cur : bsT} {hs : List bsT} {P : zo × zh × Nat → Prop} {xs : Int32} (hg : hG τ h) (rm : RM h cur hs) (ok : ∀ (j : Nat) (i : it4), cur.1.1[j]? = some i → okI i) (hxs : xs.toInt = 0) {N : Nat} (kk : ∀ (xb xk : Int32) (l4 : Option zv), xb = Int32.ofInt (N : Int) → qX 20 192 62 [some (.inl (some 52)), some (zi xb), some (zi xs), some (zi xk), l4] [] h t P) : ∀ (n k s : Nat) (xk xb : Int32) (l4 : Option zv), xk.toInt = (k : Int) → xb = Int32.ofInt (s : Int) → s < 64 → k ≤ cur.1.1.length → cur.1.1.length ≤ k + n → N = mS_ s (cur.1.1.drop k) → qX 20 192 11 [some (.inl (some 52)), some (zi xb), some (zi xs), some (zi xk), l4] [] h t P := by
  intro n
  induction n with
  | zero =>
    intro k s xk xb l4 hxk hxb hs9 hk9 hn eN
    have hs : s < 64 := hs9
    obtain ⟨⟨xp0z, hp0z, ep0z⟩, ⟨xc0z, hc0z, ec0z⟩, ip0z, ic0z⟩ := rm.1.1
    obtain ⟨⟨xp1z, hp1z, ep1z⟩, ⟨xc1z, hc1z, ec1z⟩, ip1z, ic1z⟩ := rm.1.2
    have lz := len55 hg rm.1
    refine y_same (i := .iload_n 3) (len := 1) (r := (0, 0, 0, 0)) (pc' := 12) (ls' := [some (.inl (some 52)), some (zi xb), some (zi xs), some (zi xk), l4]) (st' := [zi xk]) (by decide +kernel) (fun k q => by cases q) rfl ?_
    refine y_same (i := .aload_n 0) (len := 1) (r := (0, 0, 0, 0)) (pc' := 13) (ls' := [some (.inl (some 52)), some (zi xb), some (zi xs), some (zi xk), l4]) (st' := [.inl (some 52), zi xk]) (by decide +kernel) (fun k q => by cases q) rfl ?_
    refine y_get (j := 20) (len := 3) (r := (12, 9, 2, 1337)) (by decide +kernel) hg (t52 hg) at52 rfl rfl (g_r52 (f := 9) (T2 := 55) hg rfl (by decide)).1 ?_
    refine y_same (i := .iload_n 2) (len := 1) (r := (0, 0, 0, 0)) (pc' := 17) (ls' := [some (.inl (some 52)), some (zi xb), some (zi xs), some (zi xk), l4]) (st' := [zi xs, .inl (some 55), zi xk]) (by decide +kernel) (fun k q => by cases q) rfl ?_
    refine y_cI (i := .invokestatic 143) (len := 3) (r := (1, 166, 12, 1543)) (nL := 2) (k := 1) (n := 2) (hs := []) (args := [.inl (some 55), zi xs]) (rest := [zi xk]) (l0 := [some (.inl (some 55)), some (zi xs)]) (by decide +kernel) (Or.inl ⟨_, rfl⟩) rfl rfl rfl rfl (Nat.le_of_ble_eq_true rfl) rfl rfl (qI_le (by decide) (m_parts (d := 0) (s := 0) hg (by omega) (by omega) hp0z)) (fun y3238 qy3238 hRy3238 => ?_)
    obtain ⟨rfl, rfl⟩ := hRy3238
    refine y_cT (c := .ge) (off := 42) (pc' := 62) (len := 3) (r := (0, 0, 0, 0)) (by decide +kernel) (acmpT (c := .ge) (by show _ ≤ _; omega)) (by decide +kernel) ?_
    rw [List.drop_of_length_le (by omega)] at eN
    exact kk _ _ _ (by rw [hxb, eN]; rfl)
  | succ n ih =>
    intro k s xk xb l4 hxk hxb hs9 hk9 hn eN
    have hs : s < 64 := hs9
    rcases Nat.lt_or_ge k cur.1.1.length with q | q
    ·
      obtain ⟨⟨xp0z, hp0z, ep0z⟩, ⟨xc0z, hc0z, ec0z⟩, ip0z, ic0z⟩ := rm.1.1
      obtain ⟨⟨xp1z, hp1z, ep1z⟩, ⟨xc1z, hc1z, ec1z⟩, ip1z, ic1z⟩ := rm.1.2
      have lz := len55 hg rm.1
      obtain ⟨ik, hk⟩ : ∃ ik, cur.1.1[k]? = some ik := ⟨_, List.getElem?_eq_getElem q⟩
      have okk := ok k ik hk
      have okk2 := okk
      unfold okI at okk2
      obtain ⟨v19, hv19, ev19⟩ := qd_at (w := 1) (ip0z k ik hk) (by omega)
      have hv19 : hsl h 55 ((2 + 4 * k) + 1) = some (zi v19) := hv19
      obtain ⟨v29, hv29, ev29⟩ := qd_at (w := 2) (ip0z k ik hk) (by omega)
      have hv29 : hsl h 55 ((2 + 4 * k) + 2) = some (zi v29) := hv29
      obtain ⟨v39, hv39, ev39⟩ := qd_at (w := 3) (ip0z k ik hk) (by omega)
      have hv39 : hsl h 55 ((2 + 4 * k) + 3) = some (zi v39) := hv39
      refine y_same (i := .iload_n 3) (len := 1) (r := (0, 0, 0, 0)) (pc' := 12) (ls' := [some (.inl (some 52)), some (zi xb), some (zi xs), some (zi xk), l4]) (st' := [zi xk]) (by decide +kernel) (fun k q => by cases q) rfl ?_
      refine y_same (i := .aload_n 0) (len := 1) (r := (0, 0, 0, 0)) (pc' := 13) (ls' := [some (.inl (some 52)), some (zi xb), some (zi xs), some (zi xk), l4]) (st' := [.inl (some 52), zi xk]) (by decide +kernel) (fun k q => by cases q) rfl ?_
      refine y_get (j := 20) (len := 3) (r := (12, 9, 2, 1337)) (by decide +kernel) hg (t52 hg) at52 rfl rfl (g_r52 (f := 9) (T2 := 55) hg rfl (by decide)).1 ?_
      refine y_same (i := .iload_n 2) (len := 1) (r := (0, 0, 0, 0)) (pc' := 17) (ls' := [some (.inl (some 52)), some (zi xb), some (zi xs), some (zi xk), l4]) (st' := [zi xs, .inl (some 55), zi xk]) (by decide +kernel) (fun k q => by cases q) rfl ?_
      refine y_cI (i := .invokestatic 143) (len := 3) (r := (1, 166, 12, 1543)) (nL := 2) (k := 1) (n := 2) (hs := []) (args := [.inl (some 55), zi xs]) (rest := [zi xk]) (l0 := [some (.inl (some 55)), some (zi xs)]) (by decide +kernel) (Or.inl ⟨_, rfl⟩) rfl rfl rfl rfl (Nat.le_of_ble_eq_true rfl) rfl rfl (qI_le (by decide) (m_parts (d := 0) (s := 0) hg (by omega) (by omega) hp0z)) (fun y3213 qy3213 hRy3213 => ?_)
      obtain ⟨rfl, rfl⟩ := hRy3213
      refine y_cF (c := .ge) (off := 42) (len := 3) (r := (0, 0, 0, 0)) (by decide +kernel) (acmpF (c := .ge) (by show _ < _; omega)) ?_
      refine y_ic (c := 1) (len := 1) (r := (0, 0, 0, 0)) (by decide +kernel) (by decide) (fun y3214 hy3214 => ?_)
      refine y_same (i := .istore 4) (len := 2) (r := (0, 0, 0, 0)) (pc' := 26) (ls' := [some (.inl (some 52)), some (zi xb), some (zi xs), some (zi xk), some (zi y3214)]) (st' := []) (by decide +kernel) (fun k q => by cases q) rfl ?_
      refine y_same (i := .iload 4) (len := 2) (r := (0, 0, 0, 0)) (pc' := 28) (ls' := [some (.inl (some 52)), some (zi xb), some (zi xs), some (zi xk), some (zi y3214)]) (st' := [zi y3214]) (by decide +kernel) (fun k q => by cases q) rfl ?_
      refine y_ic (c := 4) (len := 1) (r := (0, 0, 0, 0)) (by decide +kernel) (by decide) (fun y3215 hy3215 => ?_)
      refine y_cF (c := .ge) (off := 27) (len := 3) (r := (0, 0, 0, 0)) (by decide +kernel) (acmpF (c := .ge) (by show _ < _; omega)) ?_
      refine y_same (i := .iload_n 1) (len := 1) (r := (0, 0, 0, 0)) (pc' := 33) (ls' := [some (.inl (some 52)), some (zi xb), some (zi xs), some (zi xk), some (zi y3214)]) (st' := [zi xb]) (by decide +kernel) (fun k q => by cases q) rfl ?_
      refine y_ic (c := 1) (len := 1) (r := (0, 0, 0, 0)) (by decide +kernel) (by decide) (fun y3216 hy3216 => ?_)
      refine y_same (i := .aload_n 0) (len := 1) (r := (0, 0, 0, 0)) (pc' := 35) (ls' := [some (.inl (some 52)), some (zi xb), some (zi xs), some (zi xk), some (zi y3214)]) (st' := [.inl (some 52), zi y3216, zi xb]) (by decide +kernel) (fun k q => by cases q) rfl ?_
      refine y_get (j := 20) (len := 3) (r := (12, 9, 2, 1337)) (by decide +kernel) hg (t52 hg) at52 rfl rfl (g_r52 (f := 9) (T2 := 55) hg rfl (by decide)).1 ?_
      refine y_same (i := .iload_n 2) (len := 1) (r := (0, 0, 0, 0)) (pc' := 39) (ls' := [some (.inl (some 52)), some (zi xb), some (zi xs), some (zi xk), some (zi y3214)]) (st' := [zi xs, .inl (some 55), zi y3216, zi xb]) (by decide +kernel) (fun k q => by cases q) rfl ?_
      refine y_same (i := .iload_n 3) (len := 1) (r := (0, 0, 0, 0)) (pc' := 40) (ls' := [some (.inl (some 52)), some (zi xb), some (zi xs), some (zi xk), some (zi y3214)]) (st' := [zi xk, zi xs, .inl (some 55), zi y3216, zi xb]) (by decide +kernel) (fun k q => by cases q) rfl ?_
      refine y_cI (i := .invokestatic 147) (len := 3) (r := (1, 168, 12, 1546)) (nL := 2) (k := 1) (n := 2) (hs := []) (args := [zi xs, zi xk]) (rest := [.inl (some 55), zi y3216, zi xb]) (l0 := [some (zi xs), some (zi xk)]) (by decide +kernel) (Or.inl ⟨_, rfl⟩) rfl rfl rfl rfl (Nat.le_of_ble_eq_true rfl) rfl rfl (qI_le (by decide) (m_partAt (d := 0) (s := 0) (k := k) (by omega) (by omega) (by omega) (by omega))) (fun y3217 qy3217 hRy3217 => ?_)
      obtain ⟨rfl, hy3217⟩ := hRy3217
      refine y_same (i := .iload 4) (len := 2) (r := (0, 0, 0, 0)) (pc' := 45) (ls' := [some (.inl (some 52)), some (zi xb), some (zi xs), some (zi xk), some (zi y3214)]) (st' := [zi y3214, zi y3217, .inl (some 55), zi y3216, zi xb]) (by decide +kernel) (fun k q => by cases q) rfl ?_
      refine y_add (len := 1) (r := (0, 0, 0, 0)) (by decide +kernel) (by omega) (by omega) (fun y3218 hy3218 => ?_)
      refine y_ial (i := ((2 + 4 * k) + 1)) (len := 1) (r := (0, 0, 0, 0)) (by decide +kernel) hg (tv55 hg) av55 (by omega) hv19 ?_
      refine y_bp (i := .ishl) (f := fun x y => x <<< (y &&& 31)) (len := 1) (r := (0, 0, 0, 0)) (by decide +kernel) rfl rfl (fun y3219 hy3219 => ?_)
      have hy3219 : y3219 = y3216 <<< (v19 &&& 31) := hy3219
      refine y_bp (i := .ior) (f := fun x y => x ||| y) (len := 1) (r := (0, 0, 0, 0)) (by decide +kernel) rfl rfl (fun y3220 hy3220 => ?_)
      have hy3220 : y3220 = xb ||| y3219 := hy3220
      refine y_same (i := .istore_n 1) (len := 1) (r := (0, 0, 0, 0)) (pc' := 50) (ls' := [some (.inl (some 52)), some (zi y3220), some (zi xs), some (zi xk), some (zi y3214)]) (st' := []) (by decide +kernel) (fun k q => by cases q) rfl ?_
      refine y_inc (j := 4) (a := y3214) (c := 1) (ls' := fun v => [some (.inl (some 52)), some (zi y3220), some (zi xs), some (zi xk), some v]) (len := 3) (r := (0, 0, 0, 0)) (by decide +kernel) rfl (fun _ => rfl) (by decide) (by omega) (by omega) (fun y3221 hy3221 => ?_)
      show qX 20 192 53 [some (.inl (some 52)), some (zi y3220), some (zi xs), some (zi xk), some (zi y3221)] [] h t _
      refine y_goto (off := (-27)) (pc' := 26) (len := 3) (r := (0, 0, 0, 0)) (by decide +kernel) (by decide +kernel) ?_
      refine y_same (i := .iload 4) (len := 2) (r := (0, 0, 0, 0)) (pc' := 28) (ls' := [some (.inl (some 52)), some (zi y3220), some (zi xs), some (zi xk), some (zi y3221)]) (st' := [zi y3221]) (by decide +kernel) (fun k q => by cases q) rfl ?_
      refine y_ic (c := 4) (len := 1) (r := (0, 0, 0, 0)) (by decide +kernel) (by decide) (fun y3222 hy3222 => ?_)
      refine y_cF (c := .ge) (off := 27) (len := 3) (r := (0, 0, 0, 0)) (by decide +kernel) (acmpF (c := .ge) (by show _ < _; omega)) ?_
      refine y_same (i := .iload_n 1) (len := 1) (r := (0, 0, 0, 0)) (pc' := 33) (ls' := [some (.inl (some 52)), some (zi y3220), some (zi xs), some (zi xk), some (zi y3221)]) (st' := [zi y3220]) (by decide +kernel) (fun k q => by cases q) rfl ?_
      refine y_ic (c := 1) (len := 1) (r := (0, 0, 0, 0)) (by decide +kernel) (by decide) (fun y3223 hy3223 => ?_)
      refine y_same (i := .aload_n 0) (len := 1) (r := (0, 0, 0, 0)) (pc' := 35) (ls' := [some (.inl (some 52)), some (zi y3220), some (zi xs), some (zi xk), some (zi y3221)]) (st' := [.inl (some 52), zi y3223, zi y3220]) (by decide +kernel) (fun k q => by cases q) rfl ?_
      refine y_get (j := 20) (len := 3) (r := (12, 9, 2, 1337)) (by decide +kernel) hg (t52 hg) at52 rfl rfl (g_r52 (f := 9) (T2 := 55) hg rfl (by decide)).1 ?_
      refine y_same (i := .iload_n 2) (len := 1) (r := (0, 0, 0, 0)) (pc' := 39) (ls' := [some (.inl (some 52)), some (zi y3220), some (zi xs), some (zi xk), some (zi y3221)]) (st' := [zi xs, .inl (some 55), zi y3223, zi y3220]) (by decide +kernel) (fun k q => by cases q) rfl ?_
      refine y_same (i := .iload_n 3) (len := 1) (r := (0, 0, 0, 0)) (pc' := 40) (ls' := [some (.inl (some 52)), some (zi y3220), some (zi xs), some (zi xk), some (zi y3221)]) (st' := [zi xk, zi xs, .inl (some 55), zi y3223, zi y3220]) (by decide +kernel) (fun k q => by cases q) rfl ?_
      refine y_cI (i := .invokestatic 147) (len := 3) (r := (1, 168, 12, 1546)) (nL := 2) (k := 1) (n := 2) (hs := []) (args := [zi xs, zi xk]) (rest := [.inl (some 55), zi y3223, zi y3220]) (l0 := [some (zi xs), some (zi xk)]) (by decide +kernel) (Or.inl ⟨_, rfl⟩) rfl rfl rfl rfl (Nat.le_of_ble_eq_true rfl) rfl rfl (qI_le (by decide) (m_partAt (d := 0) (s := 0) (k := k) (by omega) (by omega) (by omega) (by omega))) (fun y3224 qy3224 hRy3224 => ?_)
      obtain ⟨rfl, hy3224⟩ := hRy3224
      refine y_same (i := .iload 4) (len := 2) (r := (0, 0, 0, 0)) (pc' := 45) (ls' := [some (.inl (some 52)), some (zi y3220), some (zi xs), some (zi xk), some (zi y3221)]) (st' := [zi y3221, zi y3224, .inl (some 55), zi y3223, zi y3220]) (by decide +kernel) (fun k q => by cases q) rfl ?_
      refine y_add (len := 1) (r := (0, 0, 0, 0)) (by decide +kernel) (by omega) (by omega) (fun y3225 hy3225 => ?_)
      refine y_ial (i := ((2 + 4 * k) + 2)) (len := 1) (r := (0, 0, 0, 0)) (by decide +kernel) hg (tv55 hg) av55 (by omega) hv29 ?_
      refine y_bp (i := .ishl) (f := fun x y => x <<< (y &&& 31)) (len := 1) (r := (0, 0, 0, 0)) (by decide +kernel) rfl rfl (fun y3226 hy3226 => ?_)
      have hy3226 : y3226 = y3223 <<< (v29 &&& 31) := hy3226
      refine y_bp (i := .ior) (f := fun x y => x ||| y) (len := 1) (r := (0, 0, 0, 0)) (by decide +kernel) rfl rfl (fun y3227 hy3227 => ?_)
      have hy3227 : y3227 = y3220 ||| y3226 := hy3227
      refine y_same (i := .istore_n 1) (len := 1) (r := (0, 0, 0, 0)) (pc' := 50) (ls' := [some (.inl (some 52)), some (zi y3227), some (zi xs), some (zi xk), some (zi y3221)]) (st' := []) (by decide +kernel) (fun k q => by cases q) rfl ?_
      refine y_inc (j := 4) (a := y3221) (c := 1) (ls' := fun v => [some (.inl (some 52)), some (zi y3227), some (zi xs), some (zi xk), some v]) (len := 3) (r := (0, 0, 0, 0)) (by decide +kernel) rfl (fun _ => rfl) (by decide) (by omega) (by omega) (fun y3228 hy3228 => ?_)
      show qX 20 192 53 [some (.inl (some 52)), some (zi y3227), some (zi xs), some (zi xk), some (zi y3228)] [] h t _
      refine y_goto (off := (-27)) (pc' := 26) (len := 3) (r := (0, 0, 0, 0)) (by decide +kernel) (by decide +kernel) ?_
      refine y_same (i := .iload 4) (len := 2) (r := (0, 0, 0, 0)) (pc' := 28) (ls' := [some (.inl (some 52)), some (zi y3227), some (zi xs), some (zi xk), some (zi y3228)]) (st' := [zi y3228]) (by decide +kernel) (fun k q => by cases q) rfl ?_
      refine y_ic (c := 4) (len := 1) (r := (0, 0, 0, 0)) (by decide +kernel) (by decide) (fun y3229 hy3229 => ?_)
      refine y_cF (c := .ge) (off := 27) (len := 3) (r := (0, 0, 0, 0)) (by decide +kernel) (acmpF (c := .ge) (by show _ < _; omega)) ?_
      refine y_same (i := .iload_n 1) (len := 1) (r := (0, 0, 0, 0)) (pc' := 33) (ls' := [some (.inl (some 52)), some (zi y3227), some (zi xs), some (zi xk), some (zi y3228)]) (st' := [zi y3227]) (by decide +kernel) (fun k q => by cases q) rfl ?_
      refine y_ic (c := 1) (len := 1) (r := (0, 0, 0, 0)) (by decide +kernel) (by decide) (fun y3230 hy3230 => ?_)
      refine y_same (i := .aload_n 0) (len := 1) (r := (0, 0, 0, 0)) (pc' := 35) (ls' := [some (.inl (some 52)), some (zi y3227), some (zi xs), some (zi xk), some (zi y3228)]) (st' := [.inl (some 52), zi y3230, zi y3227]) (by decide +kernel) (fun k q => by cases q) rfl ?_
      refine y_get (j := 20) (len := 3) (r := (12, 9, 2, 1337)) (by decide +kernel) hg (t52 hg) at52 rfl rfl (g_r52 (f := 9) (T2 := 55) hg rfl (by decide)).1 ?_
      refine y_same (i := .iload_n 2) (len := 1) (r := (0, 0, 0, 0)) (pc' := 39) (ls' := [some (.inl (some 52)), some (zi y3227), some (zi xs), some (zi xk), some (zi y3228)]) (st' := [zi xs, .inl (some 55), zi y3230, zi y3227]) (by decide +kernel) (fun k q => by cases q) rfl ?_
      refine y_same (i := .iload_n 3) (len := 1) (r := (0, 0, 0, 0)) (pc' := 40) (ls' := [some (.inl (some 52)), some (zi y3227), some (zi xs), some (zi xk), some (zi y3228)]) (st' := [zi xk, zi xs, .inl (some 55), zi y3230, zi y3227]) (by decide +kernel) (fun k q => by cases q) rfl ?_
      refine y_cI (i := .invokestatic 147) (len := 3) (r := (1, 168, 12, 1546)) (nL := 2) (k := 1) (n := 2) (hs := []) (args := [zi xs, zi xk]) (rest := [.inl (some 55), zi y3230, zi y3227]) (l0 := [some (zi xs), some (zi xk)]) (by decide +kernel) (Or.inl ⟨_, rfl⟩) rfl rfl rfl rfl (Nat.le_of_ble_eq_true rfl) rfl rfl (qI_le (by decide) (m_partAt (d := 0) (s := 0) (k := k) (by omega) (by omega) (by omega) (by omega))) (fun y3231 qy3231 hRy3231 => ?_)
      obtain ⟨rfl, hy3231⟩ := hRy3231
      refine y_same (i := .iload 4) (len := 2) (r := (0, 0, 0, 0)) (pc' := 45) (ls' := [some (.inl (some 52)), some (zi y3227), some (zi xs), some (zi xk), some (zi y3228)]) (st' := [zi y3228, zi y3231, .inl (some 55), zi y3230, zi y3227]) (by decide +kernel) (fun k q => by cases q) rfl ?_
      refine y_add (len := 1) (r := (0, 0, 0, 0)) (by decide +kernel) (by omega) (by omega) (fun y3232 hy3232 => ?_)
      refine y_ial (i := ((2 + 4 * k) + 3)) (len := 1) (r := (0, 0, 0, 0)) (by decide +kernel) hg (tv55 hg) av55 (by omega) hv39 ?_
      refine y_bp (i := .ishl) (f := fun x y => x <<< (y &&& 31)) (len := 1) (r := (0, 0, 0, 0)) (by decide +kernel) rfl rfl (fun y3233 hy3233 => ?_)
      have hy3233 : y3233 = y3230 <<< (v39 &&& 31) := hy3233
      refine y_bp (i := .ior) (f := fun x y => x ||| y) (len := 1) (r := (0, 0, 0, 0)) (by decide +kernel) rfl rfl (fun y3234 hy3234 => ?_)
      have hy3234 : y3234 = y3227 ||| y3233 := hy3234
      refine y_same (i := .istore_n 1) (len := 1) (r := (0, 0, 0, 0)) (pc' := 50) (ls' := [some (.inl (some 52)), some (zi y3234), some (zi xs), some (zi xk), some (zi y3228)]) (st' := []) (by decide +kernel) (fun k q => by cases q) rfl ?_
      refine y_inc (j := 4) (a := y3228) (c := 1) (ls' := fun v => [some (.inl (some 52)), some (zi y3234), some (zi xs), some (zi xk), some v]) (len := 3) (r := (0, 0, 0, 0)) (by decide +kernel) rfl (fun _ => rfl) (by decide) (by omega) (by omega) (fun y3235 hy3235 => ?_)
      show qX 20 192 53 [some (.inl (some 52)), some (zi y3234), some (zi xs), some (zi xk), some (zi y3235)] [] h t _
      refine y_goto (off := (-27)) (pc' := 26) (len := 3) (r := (0, 0, 0, 0)) (by decide +kernel) (by decide +kernel) ?_
      refine y_same (i := .iload 4) (len := 2) (r := (0, 0, 0, 0)) (pc' := 28) (ls' := [some (.inl (some 52)), some (zi y3234), some (zi xs), some (zi xk), some (zi y3235)]) (st' := [zi y3235]) (by decide +kernel) (fun k q => by cases q) rfl ?_
      refine y_ic (c := 4) (len := 1) (r := (0, 0, 0, 0)) (by decide +kernel) (by decide) (fun y3236 hy3236 => ?_)
      refine y_cT (c := .ge) (off := 27) (pc' := 56) (len := 3) (r := (0, 0, 0, 0)) (by decide +kernel) (acmpT (c := .ge) (by show _ ≤ _; omega)) (by decide +kernel) ?_
      refine y_inc (j := 3) (a := xk) (c := 1) (ls' := fun v => [some (.inl (some 52)), some (zi y3234), some (zi xs), some v, some (zi y3235)]) (len := 3) (r := (0, 0, 0, 0)) (by decide +kernel) rfl (fun _ => rfl) (by decide) (by omega) (by omega) (fun y3237 hy3237 => ?_)
      show qX 20 192 59 [some (.inl (some 52)), some (zi y3234), some (zi xs), some (zi y3237), some (zi y3235)] [] h t _
      refine y_goto (off := (-48)) (pc' := 11) (len := 3) (r := (0, 0, 0, 0)) (by decide +kernel) (by decide +kernel) ?_
      have s1 := shl_v (c := y3216) hy3216 ev19 (by show 0 ≤ ik.2.1; omega) (by show ik.2.1 ≤ 5; omega)
      rw [← hy3219] at s1
      have b1 : 2 ^ (cmp_ ik 1).toNat < 64 := p64 _ (by show ik.2.1.toNat < 6; omega)
      have o1 := or_v hxb s1 hs b1
      rw [← hy3220] at o1
      have s2 := shl_v (c := y3223) hy3223 ev29 (by show 0 ≤ ik.2.2.1; omega) (by show ik.2.2.1 ≤ 5; omega)
      rw [← hy3226] at s2
      have b2 : 2 ^ (cmp_ ik 2).toNat < 64 := p64 _ (by show ik.2.2.1.toNat < 6; omega)
      have o2 := or_v o1 s2 (or64 hs b1) b2
      rw [← hy3227] at o2
      have s3 := shl_v (c := y3230) hy3230 ev39 (by show 0 ≤ ik.2.2.2; omega) (by show ik.2.2.2 ≤ 5; omega)
      rw [← hy3233] at s3
      have b3 : 2 ^ (cmp_ ik 3).toNat < 64 := p64 _ (by show ik.2.2.2.toNat < 6; omega)
      have o3 := or_v o2 s3 (or64 (or64 hs b1) b2) b3
      rw [← hy3234] at o3
      have e9 : cur.1.1.drop k = ik :: cur.1.1.drop (k + 1) := by
        rw [List.drop_eq_getElem_cons q]
        congr 1
        exact Option.some.inj ((List.getElem?_eq_getElem q).symm.trans hk)
      rw [e9] at eN
      exact ih (k + 1) (s ||| bI_ ik) y3237 y3234 _ (by omega) (by rw [o3]; congr 2; unfold bI_; show _ = s ||| (2 ^ (cmp_ ik 1).toNat ||| 2 ^ (cmp_ ik 2).toNat ||| 2 ^ (cmp_ ik 3).toNat); rw [Nat.or_assoc, Nat.or_assoc, Nat.or_assoc]) (or64 hs (bI_64 okk)) (by omega) (by omega) eN
    ·
      obtain ⟨⟨xp0z, hp0z, ep0z⟩, ⟨xc0z, hc0z, ec0z⟩, ip0z, ic0z⟩ := rm.1.1
      obtain ⟨⟨xp1z, hp1z, ep1z⟩, ⟨xc1z, hc1z, ec1z⟩, ip1z, ic1z⟩ := rm.1.2
      have lz := len55 hg rm.1
      refine y_same (i := .iload_n 3) (len := 1) (r := (0, 0, 0, 0)) (pc' := 12) (ls' := [some (.inl (some 52)), some (zi xb), some (zi xs), some (zi xk), l4]) (st' := [zi xk]) (by decide +kernel) (fun k q => by cases q) rfl ?_
      refine y_same (i := .aload_n 0) (len := 1) (r := (0, 0, 0, 0)) (pc' := 13) (ls' := [some (.inl (some 52)), some (zi xb), some (zi xs), some (zi xk), l4]) (st' := [.inl (some 52), zi xk]) (by decide +kernel) (fun k q => by cases q) rfl ?_
      refine y_get (j := 20) (len := 3) (r := (12, 9, 2, 1337)) (by decide +kernel) hg (t52 hg) at52 rfl rfl (g_r52 (f := 9) (T2 := 55) hg rfl (by decide)).1 ?_
      refine y_same (i := .iload_n 2) (len := 1) (r := (0, 0, 0, 0)) (pc' := 17) (ls' := [some (.inl (some 52)), some (zi xb), some (zi xs), some (zi xk), l4]) (st' := [zi xs, .inl (some 55), zi xk]) (by decide +kernel) (fun k q => by cases q) rfl ?_
      refine y_cI (i := .invokestatic 143) (len := 3) (r := (1, 166, 12, 1543)) (nL := 2) (k := 1) (n := 2) (hs := []) (args := [.inl (some 55), zi xs]) (rest := [zi xk]) (l0 := [some (.inl (some 55)), some (zi xs)]) (by decide +kernel) (Or.inl ⟨_, rfl⟩) rfl rfl rfl rfl (Nat.le_of_ble_eq_true rfl) rfl rfl (qI_le (by decide) (m_parts (d := 0) (s := 0) hg (by omega) (by omega) hp0z)) (fun y3239 qy3239 hRy3239 => ?_)
      obtain ⟨rfl, rfl⟩ := hRy3239
      refine y_cT (c := .ge) (off := 42) (pc' := 62) (len := 3) (r := (0, 0, 0, 0)) (by decide +kernel) (acmpT (c := .ge) (by show _ ≤ _; omega)) (by decide +kernel) ?_
      rw [List.drop_of_length_le (by omega)] at eN
      exact kk _ _ _ (by rw [hxb, eN]; rfl)
theorem mv_c0 {t : Nat} {τ : List Nat} {h : zh} {cur : bsT} {hs : List bsT} {P : zo × zh × Nat → Prop} {xs : Int32} (hg : hG τ h) (rm : RM h cur hs) (ok : ∀ (j : Nat) (i : it4), cur.1.2[j]? = some i → okI i) (hxs : xs.toInt = 0) {N : Nat} (kk : ∀ (xb xk : Int32) (l4 : Option zv), xb = Int32.ofInt (N : Int) → qX 20 192 115 [some (.inl (some 52)), some (zi xb), some (zi xs), some (zi xk), l4] [] h t P) : ∀ (n k s : Nat) (xk xb : Int32) (l4 : Option zv), xk.toInt = (k : Int) → xb = Int32.ofInt (s : Int) → s < 64 → k ≤ cur.1.2.length → cur.1.2.length ≤ k + n → N = mC_ s (cur.1.2.drop k) → qX 20 192 64 [some (.inl (some 52)), some (zi xb), some (zi xs), some (zi xk), l4] [] h t P := by
  intro n
  induction n with
  | zero =>
    intro k s xk xb l4 hxk hxb hs9 hk9 hn eN
    have hs : s < 64 := hs9
    obtain ⟨⟨xp0z, hp0z, ep0z⟩, ⟨xc0z, hc0z, ec0z⟩, ip0z, ic0z⟩ := rm.1.1
    obtain ⟨⟨xp1z, hp1z, ep1z⟩, ⟨xc1z, hc1z, ec1z⟩, ip1z, ic1z⟩ := rm.1.2
    have lz := len55 hg rm.1
    refine y_same (i := .iload_n 3) (len := 1) (r := (0, 0, 0, 0)) (pc' := 65) (ls' := [some (.inl (some 52)), some (zi xb), some (zi xs), some (zi xk), l4]) (st' := [zi xk]) (by decide +kernel) (fun k q => by cases q) rfl ?_
    refine y_same (i := .aload_n 0) (len := 1) (r := (0, 0, 0, 0)) (pc' := 66) (ls' := [some (.inl (some 52)), some (zi xb), some (zi xs), some (zi xk), l4]) (st' := [.inl (some 52), zi xk]) (by decide +kernel) (fun k q => by cases q) rfl ?_
    refine y_get (j := 20) (len := 3) (r := (12, 9, 2, 1337)) (by decide +kernel) hg (t52 hg) at52 rfl rfl (g_r52 (f := 9) (T2 := 55) hg rfl (by decide)).1 ?_
    refine y_same (i := .iload_n 2) (len := 1) (r := (0, 0, 0, 0)) (pc' := 70) (ls' := [some (.inl (some 52)), some (zi xb), some (zi xs), some (zi xk), l4]) (st' := [zi xs, .inl (some 55), zi xk]) (by decide +kernel) (fun k q => by cases q) rfl ?_
    refine y_cI (i := .invokestatic 155) (len := 3) (r := (1, 167, 12, 1560)) (nL := 2) (k := 1) (n := 2) (hs := []) (args := [.inl (some 55), zi xs]) (rest := [zi xk]) (l0 := [some (.inl (some 55)), some (zi xs)]) (by decide +kernel) (Or.inl ⟨_, rfl⟩) rfl rfl rfl rfl (Nat.le_of_ble_eq_true rfl) rfl rfl (qI_le (by decide) (m_claims (d := 0) (s := 0) hg (by omega) (by omega) hc0z)) (fun y3258 qy3258 hRy3258 => ?_)
    obtain ⟨rfl, rfl⟩ := hRy3258
    refine y_cT (c := .ge) (off := 42) (pc' := 115) (len := 3) (r := (0, 0, 0, 0)) (by decide +kernel) (acmpT (c := .ge) (by show _ ≤ _; omega)) (by decide +kernel) ?_
    rw [List.drop_of_length_le (by omega)] at eN
    exact kk _ _ _ (by rw [hxb, eN]; rfl)
  | succ n ih =>
    intro k s xk xb l4 hxk hxb hs9 hk9 hn eN
    have hs : s < 64 := hs9
    rcases Nat.lt_or_ge k cur.1.2.length with q | q
    ·
      obtain ⟨⟨xp0z, hp0z, ep0z⟩, ⟨xc0z, hc0z, ec0z⟩, ip0z, ic0z⟩ := rm.1.1
      obtain ⟨⟨xp1z, hp1z, ep1z⟩, ⟨xc1z, hc1z, ec1z⟩, ip1z, ic1z⟩ := rm.1.2
      have lz := len55 hg rm.1
      obtain ⟨ik, hk⟩ : ∃ ik, cur.1.2[k]? = some ik := ⟨_, List.getElem?_eq_getElem q⟩
      have okk := ok k ik hk
      have okk2 := okk
      unfold okI at okk2
      obtain ⟨v19, hv19, ev19⟩ := qd_at (w := 1) (ic0z k ik hk) (by omega)
      have hv19 : hsl h 55 ((22 + 4 * k) + 1) = some (zi v19) := hv19
      obtain ⟨v29, hv29, ev29⟩ := qd_at (w := 2) (ic0z k ik hk) (by omega)
      have hv29 : hsl h 55 ((22 + 4 * k) + 2) = some (zi v29) := hv29
      refine y_same (i := .iload_n 3) (len := 1) (r := (0, 0, 0, 0)) (pc' := 65) (ls' := [some (.inl (some 52)), some (zi xb), some (zi xs), some (zi xk), l4]) (st' := [zi xk]) (by decide +kernel) (fun k q => by cases q) rfl ?_
      refine y_same (i := .aload_n 0) (len := 1) (r := (0, 0, 0, 0)) (pc' := 66) (ls' := [some (.inl (some 52)), some (zi xb), some (zi xs), some (zi xk), l4]) (st' := [.inl (some 52), zi xk]) (by decide +kernel) (fun k q => by cases q) rfl ?_
      refine y_get (j := 20) (len := 3) (r := (12, 9, 2, 1337)) (by decide +kernel) hg (t52 hg) at52 rfl rfl (g_r52 (f := 9) (T2 := 55) hg rfl (by decide)).1 ?_
      refine y_same (i := .iload_n 2) (len := 1) (r := (0, 0, 0, 0)) (pc' := 70) (ls' := [some (.inl (some 52)), some (zi xb), some (zi xs), some (zi xk), l4]) (st' := [zi xs, .inl (some 55), zi xk]) (by decide +kernel) (fun k q => by cases q) rfl ?_
      refine y_cI (i := .invokestatic 155) (len := 3) (r := (1, 167, 12, 1560)) (nL := 2) (k := 1) (n := 2) (hs := []) (args := [.inl (some 55), zi xs]) (rest := [zi xk]) (l0 := [some (.inl (some 55)), some (zi xs)]) (by decide +kernel) (Or.inl ⟨_, rfl⟩) rfl rfl rfl rfl (Nat.le_of_ble_eq_true rfl) rfl rfl (qI_le (by decide) (m_claims (d := 0) (s := 0) hg (by omega) (by omega) hc0z)) (fun y3240 qy3240 hRy3240 => ?_)
      obtain ⟨rfl, rfl⟩ := hRy3240
      refine y_cF (c := .ge) (off := 42) (len := 3) (r := (0, 0, 0, 0)) (by decide +kernel) (acmpF (c := .ge) (by show _ < _; omega)) ?_
      refine y_ic (c := 1) (len := 1) (r := (0, 0, 0, 0)) (by decide +kernel) (by decide) (fun y3241 hy3241 => ?_)
      refine y_same (i := .istore 4) (len := 2) (r := (0, 0, 0, 0)) (pc' := 79) (ls' := [some (.inl (some 52)), some (zi xb), some (zi xs), some (zi xk), some (zi y3241)]) (st' := []) (by decide +kernel) (fun k q => by cases q) rfl ?_
      refine y_same (i := .iload 4) (len := 2) (r := (0, 0, 0, 0)) (pc' := 81) (ls' := [some (.inl (some 52)), some (zi xb), some (zi xs), some (zi xk), some (zi y3241)]) (st' := [zi y3241]) (by decide +kernel) (fun k q => by cases q) rfl ?_
      refine y_ic (c := 3) (len := 1) (r := (0, 0, 0, 0)) (by decide +kernel) (by decide) (fun y3242 hy3242 => ?_)
      refine y_cF (c := .ge) (off := 27) (len := 3) (r := (0, 0, 0, 0)) (by decide +kernel) (acmpF (c := .ge) (by show _ < _; omega)) ?_
      refine y_same (i := .iload_n 1) (len := 1) (r := (0, 0, 0, 0)) (pc' := 86) (ls' := [some (.inl (some 52)), some (zi xb), some (zi xs), some (zi xk), some (zi y3241)]) (st' := [zi xb]) (by decide +kernel) (fun k q => by cases q) rfl ?_
      refine y_ic (c := 1) (len := 1) (r := (0, 0, 0, 0)) (by decide +kernel) (by decide) (fun y3243 hy3243 => ?_)
      refine y_same (i := .aload_n 0) (len := 1) (r := (0, 0, 0, 0)) (pc' := 88) (ls' := [some (.inl (some 52)), some (zi xb), some (zi xs), some (zi xk), some (zi y3241)]) (st' := [.inl (some 52), zi y3243, zi xb]) (by decide +kernel) (fun k q => by cases q) rfl ?_
      refine y_get (j := 20) (len := 3) (r := (12, 9, 2, 1337)) (by decide +kernel) hg (t52 hg) at52 rfl rfl (g_r52 (f := 9) (T2 := 55) hg rfl (by decide)).1 ?_
      refine y_same (i := .iload_n 2) (len := 1) (r := (0, 0, 0, 0)) (pc' := 92) (ls' := [some (.inl (some 52)), some (zi xb), some (zi xs), some (zi xk), some (zi y3241)]) (st' := [zi xs, .inl (some 55), zi y3243, zi xb]) (by decide +kernel) (fun k q => by cases q) rfl ?_
      refine y_same (i := .iload_n 3) (len := 1) (r := (0, 0, 0, 0)) (pc' := 93) (ls' := [some (.inl (some 52)), some (zi xb), some (zi xs), some (zi xk), some (zi y3241)]) (st' := [zi xk, zi xs, .inl (some 55), zi y3243, zi xb]) (by decide +kernel) (fun k q => by cases q) rfl ?_
      refine y_cI (i := .invokestatic 158) (len := 3) (r := (1, 169, 12, 1563)) (nL := 2) (k := 1) (n := 2) (hs := []) (args := [zi xs, zi xk]) (rest := [.inl (some 55), zi y3243, zi xb]) (l0 := [some (zi xs), some (zi xk)]) (by decide +kernel) (Or.inl ⟨_, rfl⟩) rfl rfl rfl rfl (Nat.le_of_ble_eq_true rfl) rfl rfl (qI_le (by decide) (m_claimAt (d := 0) (s := 0) (k := k) (by omega) (by omega) (by omega) (by omega))) (fun y3244 qy3244 hRy3244 => ?_)
      obtain ⟨rfl, hy3244⟩ := hRy3244
      refine y_same (i := .iload 4) (len := 2) (r := (0, 0, 0, 0)) (pc' := 98) (ls' := [some (.inl (some 52)), some (zi xb), some (zi xs), some (zi xk), some (zi y3241)]) (st' := [zi y3241, zi y3244, .inl (some 55), zi y3243, zi xb]) (by decide +kernel) (fun k q => by cases q) rfl ?_
      refine y_add (len := 1) (r := (0, 0, 0, 0)) (by decide +kernel) (by omega) (by omega) (fun y3245 hy3245 => ?_)
      refine y_ial (i := ((22 + 4 * k) + 1)) (len := 1) (r := (0, 0, 0, 0)) (by decide +kernel) hg (tv55 hg) av55 (by omega) hv19 ?_
      refine y_bp (i := .ishl) (f := fun x y => x <<< (y &&& 31)) (len := 1) (r := (0, 0, 0, 0)) (by decide +kernel) rfl rfl (fun y3246 hy3246 => ?_)
      have hy3246 : y3246 = y3243 <<< (v19 &&& 31) := hy3246
      refine y_bp (i := .ior) (f := fun x y => x ||| y) (len := 1) (r := (0, 0, 0, 0)) (by decide +kernel) rfl rfl (fun y3247 hy3247 => ?_)
      have hy3247 : y3247 = xb ||| y3246 := hy3247
      refine y_same (i := .istore_n 1) (len := 1) (r := (0, 0, 0, 0)) (pc' := 103) (ls' := [some (.inl (some 52)), some (zi y3247), some (zi xs), some (zi xk), some (zi y3241)]) (st' := []) (by decide +kernel) (fun k q => by cases q) rfl ?_
      refine y_inc (j := 4) (a := y3241) (c := 1) (ls' := fun v => [some (.inl (some 52)), some (zi y3247), some (zi xs), some (zi xk), some v]) (len := 3) (r := (0, 0, 0, 0)) (by decide +kernel) rfl (fun _ => rfl) (by decide) (by omega) (by omega) (fun y3248 hy3248 => ?_)
      show qX 20 192 106 [some (.inl (some 52)), some (zi y3247), some (zi xs), some (zi xk), some (zi y3248)] [] h t _
      refine y_goto (off := (-27)) (pc' := 79) (len := 3) (r := (0, 0, 0, 0)) (by decide +kernel) (by decide +kernel) ?_
      refine y_same (i := .iload 4) (len := 2) (r := (0, 0, 0, 0)) (pc' := 81) (ls' := [some (.inl (some 52)), some (zi y3247), some (zi xs), some (zi xk), some (zi y3248)]) (st' := [zi y3248]) (by decide +kernel) (fun k q => by cases q) rfl ?_
      refine y_ic (c := 3) (len := 1) (r := (0, 0, 0, 0)) (by decide +kernel) (by decide) (fun y3249 hy3249 => ?_)
      refine y_cF (c := .ge) (off := 27) (len := 3) (r := (0, 0, 0, 0)) (by decide +kernel) (acmpF (c := .ge) (by show _ < _; omega)) ?_
      refine y_same (i := .iload_n 1) (len := 1) (r := (0, 0, 0, 0)) (pc' := 86) (ls' := [some (.inl (some 52)), some (zi y3247), some (zi xs), some (zi xk), some (zi y3248)]) (st' := [zi y3247]) (by decide +kernel) (fun k q => by cases q) rfl ?_
      refine y_ic (c := 1) (len := 1) (r := (0, 0, 0, 0)) (by decide +kernel) (by decide) (fun y3250 hy3250 => ?_)
      refine y_same (i := .aload_n 0) (len := 1) (r := (0, 0, 0, 0)) (pc' := 88) (ls' := [some (.inl (some 52)), some (zi y3247), some (zi xs), some (zi xk), some (zi y3248)]) (st' := [.inl (some 52), zi y3250, zi y3247]) (by decide +kernel) (fun k q => by cases q) rfl ?_
      refine y_get (j := 20) (len := 3) (r := (12, 9, 2, 1337)) (by decide +kernel) hg (t52 hg) at52 rfl rfl (g_r52 (f := 9) (T2 := 55) hg rfl (by decide)).1 ?_
      refine y_same (i := .iload_n 2) (len := 1) (r := (0, 0, 0, 0)) (pc' := 92) (ls' := [some (.inl (some 52)), some (zi y3247), some (zi xs), some (zi xk), some (zi y3248)]) (st' := [zi xs, .inl (some 55), zi y3250, zi y3247]) (by decide +kernel) (fun k q => by cases q) rfl ?_
      refine y_same (i := .iload_n 3) (len := 1) (r := (0, 0, 0, 0)) (pc' := 93) (ls' := [some (.inl (some 52)), some (zi y3247), some (zi xs), some (zi xk), some (zi y3248)]) (st' := [zi xk, zi xs, .inl (some 55), zi y3250, zi y3247]) (by decide +kernel) (fun k q => by cases q) rfl ?_
      refine y_cI (i := .invokestatic 158) (len := 3) (r := (1, 169, 12, 1563)) (nL := 2) (k := 1) (n := 2) (hs := []) (args := [zi xs, zi xk]) (rest := [.inl (some 55), zi y3250, zi y3247]) (l0 := [some (zi xs), some (zi xk)]) (by decide +kernel) (Or.inl ⟨_, rfl⟩) rfl rfl rfl rfl (Nat.le_of_ble_eq_true rfl) rfl rfl (qI_le (by decide) (m_claimAt (d := 0) (s := 0) (k := k) (by omega) (by omega) (by omega) (by omega))) (fun y3251 qy3251 hRy3251 => ?_)
      obtain ⟨rfl, hy3251⟩ := hRy3251
      refine y_same (i := .iload 4) (len := 2) (r := (0, 0, 0, 0)) (pc' := 98) (ls' := [some (.inl (some 52)), some (zi y3247), some (zi xs), some (zi xk), some (zi y3248)]) (st' := [zi y3248, zi y3251, .inl (some 55), zi y3250, zi y3247]) (by decide +kernel) (fun k q => by cases q) rfl ?_
      refine y_add (len := 1) (r := (0, 0, 0, 0)) (by decide +kernel) (by omega) (by omega) (fun y3252 hy3252 => ?_)
      refine y_ial (i := ((22 + 4 * k) + 2)) (len := 1) (r := (0, 0, 0, 0)) (by decide +kernel) hg (tv55 hg) av55 (by omega) hv29 ?_
      refine y_bp (i := .ishl) (f := fun x y => x <<< (y &&& 31)) (len := 1) (r := (0, 0, 0, 0)) (by decide +kernel) rfl rfl (fun y3253 hy3253 => ?_)
      have hy3253 : y3253 = y3250 <<< (v29 &&& 31) := hy3253
      refine y_bp (i := .ior) (f := fun x y => x ||| y) (len := 1) (r := (0, 0, 0, 0)) (by decide +kernel) rfl rfl (fun y3254 hy3254 => ?_)
      have hy3254 : y3254 = y3247 ||| y3253 := hy3254
      refine y_same (i := .istore_n 1) (len := 1) (r := (0, 0, 0, 0)) (pc' := 103) (ls' := [some (.inl (some 52)), some (zi y3254), some (zi xs), some (zi xk), some (zi y3248)]) (st' := []) (by decide +kernel) (fun k q => by cases q) rfl ?_
      refine y_inc (j := 4) (a := y3248) (c := 1) (ls' := fun v => [some (.inl (some 52)), some (zi y3254), some (zi xs), some (zi xk), some v]) (len := 3) (r := (0, 0, 0, 0)) (by decide +kernel) rfl (fun _ => rfl) (by decide) (by omega) (by omega) (fun y3255 hy3255 => ?_)
      show qX 20 192 106 [some (.inl (some 52)), some (zi y3254), some (zi xs), some (zi xk), some (zi y3255)] [] h t _
      refine y_goto (off := (-27)) (pc' := 79) (len := 3) (r := (0, 0, 0, 0)) (by decide +kernel) (by decide +kernel) ?_
      refine y_same (i := .iload 4) (len := 2) (r := (0, 0, 0, 0)) (pc' := 81) (ls' := [some (.inl (some 52)), some (zi y3254), some (zi xs), some (zi xk), some (zi y3255)]) (st' := [zi y3255]) (by decide +kernel) (fun k q => by cases q) rfl ?_
      refine y_ic (c := 3) (len := 1) (r := (0, 0, 0, 0)) (by decide +kernel) (by decide) (fun y3256 hy3256 => ?_)
      refine y_cT (c := .ge) (off := 27) (pc' := 109) (len := 3) (r := (0, 0, 0, 0)) (by decide +kernel) (acmpT (c := .ge) (by show _ ≤ _; omega)) (by decide +kernel) ?_
      refine y_inc (j := 3) (a := xk) (c := 1) (ls' := fun v => [some (.inl (some 52)), some (zi y3254), some (zi xs), some v, some (zi y3255)]) (len := 3) (r := (0, 0, 0, 0)) (by decide +kernel) rfl (fun _ => rfl) (by decide) (by omega) (by omega) (fun y3257 hy3257 => ?_)
      show qX 20 192 112 [some (.inl (some 52)), some (zi y3254), some (zi xs), some (zi y3257), some (zi y3255)] [] h t _
      refine y_goto (off := (-48)) (pc' := 64) (len := 3) (r := (0, 0, 0, 0)) (by decide +kernel) (by decide +kernel) ?_
      have s1 := shl_v (c := y3243) hy3243 ev19 (by show 0 ≤ ik.2.1; omega) (by show ik.2.1 ≤ 5; omega)
      rw [← hy3246] at s1
      have b1 : 2 ^ (cmp_ ik 1).toNat < 64 := p64 _ (by show ik.2.1.toNat < 6; omega)
      have o1 := or_v hxb s1 hs b1
      rw [← hy3247] at o1
      have s2 := shl_v (c := y3250) hy3250 ev29 (by show 0 ≤ ik.2.2.1; omega) (by show ik.2.2.1 ≤ 5; omega)
      rw [← hy3253] at s2
      have b2 : 2 ^ (cmp_ ik 2).toNat < 64 := p64 _ (by show ik.2.2.1.toNat < 6; omega)
      have o2 := or_v o1 s2 (or64 hs b1) b2
      rw [← hy3254] at o2
      have e9 : cur.1.2.drop k = ik :: cur.1.2.drop (k + 1) := by
        rw [List.drop_eq_getElem_cons q]
        congr 1
        exact Option.some.inj ((List.getElem?_eq_getElem q).symm.trans hk)
      rw [e9] at eN
      exact ih (k + 1) (s ||| bC_ ik) y3257 y3254 _ (by omega) (by rw [o2]; congr 2; unfold bC_; show _ = s ||| (2 ^ (cmp_ ik 1).toNat ||| 2 ^ (cmp_ ik 2).toNat); rw [Nat.or_assoc]) (or64 hs (bC_64 okk)) (by omega) (by omega) eN
    ·
      obtain ⟨⟨xp0z, hp0z, ep0z⟩, ⟨xc0z, hc0z, ec0z⟩, ip0z, ic0z⟩ := rm.1.1
      obtain ⟨⟨xp1z, hp1z, ep1z⟩, ⟨xc1z, hc1z, ec1z⟩, ip1z, ic1z⟩ := rm.1.2
      have lz := len55 hg rm.1
      refine y_same (i := .iload_n 3) (len := 1) (r := (0, 0, 0, 0)) (pc' := 65) (ls' := [some (.inl (some 52)), some (zi xb), some (zi xs), some (zi xk), l4]) (st' := [zi xk]) (by decide +kernel) (fun k q => by cases q) rfl ?_
      refine y_same (i := .aload_n 0) (len := 1) (r := (0, 0, 0, 0)) (pc' := 66) (ls' := [some (.inl (some 52)), some (zi xb), some (zi xs), some (zi xk), l4]) (st' := [.inl (some 52), zi xk]) (by decide +kernel) (fun k q => by cases q) rfl ?_
      refine y_get (j := 20) (len := 3) (r := (12, 9, 2, 1337)) (by decide +kernel) hg (t52 hg) at52 rfl rfl (g_r52 (f := 9) (T2 := 55) hg rfl (by decide)).1 ?_
      refine y_same (i := .iload_n 2) (len := 1) (r := (0, 0, 0, 0)) (pc' := 70) (ls' := [some (.inl (some 52)), some (zi xb), some (zi xs), some (zi xk), l4]) (st' := [zi xs, .inl (some 55), zi xk]) (by decide +kernel) (fun k q => by cases q) rfl ?_
      refine y_cI (i := .invokestatic 155) (len := 3) (r := (1, 167, 12, 1560)) (nL := 2) (k := 1) (n := 2) (hs := []) (args := [.inl (some 55), zi xs]) (rest := [zi xk]) (l0 := [some (.inl (some 55)), some (zi xs)]) (by decide +kernel) (Or.inl ⟨_, rfl⟩) rfl rfl rfl rfl (Nat.le_of_ble_eq_true rfl) rfl rfl (qI_le (by decide) (m_claims (d := 0) (s := 0) hg (by omega) (by omega) hc0z)) (fun y3259 qy3259 hRy3259 => ?_)
      obtain ⟨rfl, rfl⟩ := hRy3259
      refine y_cT (c := .ge) (off := 42) (pc' := 115) (len := 3) (r := (0, 0, 0, 0)) (by decide +kernel) (acmpT (c := .ge) (by show _ ≤ _; omega)) (by decide +kernel) ?_
      rw [List.drop_of_length_le (by omega)] at eN
      exact kk _ _ _ (by rw [hxb, eN]; rfl)
theorem mv_p1 {t : Nat} {τ : List Nat} {h : zh} {cur : bsT} {hs : List bsT} {P : zo × zh × Nat → Prop} {xs : Int32} (hg : hG τ h) (rm : RM h cur hs) (ok : ∀ (j : Nat) (i : it4), cur.2.1[j]? = some i → okI i) (hxs : xs.toInt = 1) {N : Nat} (kk : ∀ (xb xk : Int32) (l4 : Option zv), xb = Int32.ofInt (N : Int) → qX 20 192 62 [some (.inl (some 52)), some (zi xb), some (zi xs), some (zi xk), l4] [] h t P) : ∀ (n k s : Nat) (xk xb : Int32) (l4 : Option zv), xk.toInt = (k : Int) → xb = Int32.ofInt (s : Int) → s < 64 → k ≤ cur.2.1.length → cur.2.1.length ≤ k + n → N = mS_ s (cur.2.1.drop k) → qX 20 192 11 [some (.inl (some 52)), some (zi xb), some (zi xs), some (zi xk), l4] [] h t P := by
  intro n
  induction n with
  | zero =>
    intro k s xk xb l4 hxk hxb hs9 hk9 hn eN
    have hs : s < 64 := hs9
    obtain ⟨⟨xp0z, hp0z, ep0z⟩, ⟨xc0z, hc0z, ec0z⟩, ip0z, ic0z⟩ := rm.1.1
    obtain ⟨⟨xp1z, hp1z, ep1z⟩, ⟨xc1z, hc1z, ec1z⟩, ip1z, ic1z⟩ := rm.1.2
    have lz := len55 hg rm.1
    refine y_same (i := .iload_n 3) (len := 1) (r := (0, 0, 0, 0)) (pc' := 12) (ls' := [some (.inl (some 52)), some (zi xb), some (zi xs), some (zi xk), l4]) (st' := [zi xk]) (by decide +kernel) (fun k q => by cases q) rfl ?_
    refine y_same (i := .aload_n 0) (len := 1) (r := (0, 0, 0, 0)) (pc' := 13) (ls' := [some (.inl (some 52)), some (zi xb), some (zi xs), some (zi xk), l4]) (st' := [.inl (some 52), zi xk]) (by decide +kernel) (fun k q => by cases q) rfl ?_
    refine y_get (j := 20) (len := 3) (r := (12, 9, 2, 1337)) (by decide +kernel) hg (t52 hg) at52 rfl rfl (g_r52 (f := 9) (T2 := 55) hg rfl (by decide)).1 ?_
    refine y_same (i := .iload_n 2) (len := 1) (r := (0, 0, 0, 0)) (pc' := 17) (ls' := [some (.inl (some 52)), some (zi xb), some (zi xs), some (zi xk), l4]) (st' := [zi xs, .inl (some 55), zi xk]) (by decide +kernel) (fun k q => by cases q) rfl ?_
    refine y_cI (i := .invokestatic 143) (len := 3) (r := (1, 166, 12, 1543)) (nL := 2) (k := 1) (n := 2) (hs := []) (args := [.inl (some 55), zi xs]) (rest := [zi xk]) (l0 := [some (.inl (some 55)), some (zi xs)]) (by decide +kernel) (Or.inl ⟨_, rfl⟩) rfl rfl rfl rfl (Nat.le_of_ble_eq_true rfl) rfl rfl (qI_le (by decide) (m_parts (d := 0) (s := 1) hg (by omega) (by omega) hp1z)) (fun y3285 qy3285 hRy3285 => ?_)
    obtain ⟨rfl, rfl⟩ := hRy3285
    refine y_cT (c := .ge) (off := 42) (pc' := 62) (len := 3) (r := (0, 0, 0, 0)) (by decide +kernel) (acmpT (c := .ge) (by show _ ≤ _; omega)) (by decide +kernel) ?_
    rw [List.drop_of_length_le (by omega)] at eN
    exact kk _ _ _ (by rw [hxb, eN]; rfl)
  | succ n ih =>
    intro k s xk xb l4 hxk hxb hs9 hk9 hn eN
    have hs : s < 64 := hs9
    rcases Nat.lt_or_ge k cur.2.1.length with q | q
    ·
      obtain ⟨⟨xp0z, hp0z, ep0z⟩, ⟨xc0z, hc0z, ec0z⟩, ip0z, ic0z⟩ := rm.1.1
      obtain ⟨⟨xp1z, hp1z, ep1z⟩, ⟨xc1z, hc1z, ec1z⟩, ip1z, ic1z⟩ := rm.1.2
      have lz := len55 hg rm.1
      obtain ⟨ik, hk⟩ : ∃ ik, cur.2.1[k]? = some ik := ⟨_, List.getElem?_eq_getElem q⟩
      have okk := ok k ik hk
      have okk2 := okk
      unfold okI at okk2
      obtain ⟨v19, hv19, ev19⟩ := qd_at (w := 1) (ip1z k ik hk) (by omega)
      have hv19 : hsl h 55 ((48 + 4 * k) + 1) = some (zi v19) := hv19
      obtain ⟨v29, hv29, ev29⟩ := qd_at (w := 2) (ip1z k ik hk) (by omega)
      have hv29 : hsl h 55 ((48 + 4 * k) + 2) = some (zi v29) := hv29
      obtain ⟨v39, hv39, ev39⟩ := qd_at (w := 3) (ip1z k ik hk) (by omega)
      have hv39 : hsl h 55 ((48 + 4 * k) + 3) = some (zi v39) := hv39
      refine y_same (i := .iload_n 3) (len := 1) (r := (0, 0, 0, 0)) (pc' := 12) (ls' := [some (.inl (some 52)), some (zi xb), some (zi xs), some (zi xk), l4]) (st' := [zi xk]) (by decide +kernel) (fun k q => by cases q) rfl ?_
      refine y_same (i := .aload_n 0) (len := 1) (r := (0, 0, 0, 0)) (pc' := 13) (ls' := [some (.inl (some 52)), some (zi xb), some (zi xs), some (zi xk), l4]) (st' := [.inl (some 52), zi xk]) (by decide +kernel) (fun k q => by cases q) rfl ?_
      refine y_get (j := 20) (len := 3) (r := (12, 9, 2, 1337)) (by decide +kernel) hg (t52 hg) at52 rfl rfl (g_r52 (f := 9) (T2 := 55) hg rfl (by decide)).1 ?_
      refine y_same (i := .iload_n 2) (len := 1) (r := (0, 0, 0, 0)) (pc' := 17) (ls' := [some (.inl (some 52)), some (zi xb), some (zi xs), some (zi xk), l4]) (st' := [zi xs, .inl (some 55), zi xk]) (by decide +kernel) (fun k q => by cases q) rfl ?_
      refine y_cI (i := .invokestatic 143) (len := 3) (r := (1, 166, 12, 1543)) (nL := 2) (k := 1) (n := 2) (hs := []) (args := [.inl (some 55), zi xs]) (rest := [zi xk]) (l0 := [some (.inl (some 55)), some (zi xs)]) (by decide +kernel) (Or.inl ⟨_, rfl⟩) rfl rfl rfl rfl (Nat.le_of_ble_eq_true rfl) rfl rfl (qI_le (by decide) (m_parts (d := 0) (s := 1) hg (by omega) (by omega) hp1z)) (fun y3260 qy3260 hRy3260 => ?_)
      obtain ⟨rfl, rfl⟩ := hRy3260
      refine y_cF (c := .ge) (off := 42) (len := 3) (r := (0, 0, 0, 0)) (by decide +kernel) (acmpF (c := .ge) (by show _ < _; omega)) ?_
      refine y_ic (c := 1) (len := 1) (r := (0, 0, 0, 0)) (by decide +kernel) (by decide) (fun y3261 hy3261 => ?_)
      refine y_same (i := .istore 4) (len := 2) (r := (0, 0, 0, 0)) (pc' := 26) (ls' := [some (.inl (some 52)), some (zi xb), some (zi xs), some (zi xk), some (zi y3261)]) (st' := []) (by decide +kernel) (fun k q => by cases q) rfl ?_
      refine y_same (i := .iload 4) (len := 2) (r := (0, 0, 0, 0)) (pc' := 28) (ls' := [some (.inl (some 52)), some (zi xb), some (zi xs), some (zi xk), some (zi y3261)]) (st' := [zi y3261]) (by decide +kernel) (fun k q => by cases q) rfl ?_
      refine y_ic (c := 4) (len := 1) (r := (0, 0, 0, 0)) (by decide +kernel) (by decide) (fun y3262 hy3262 => ?_)
      refine y_cF (c := .ge) (off := 27) (len := 3) (r := (0, 0, 0, 0)) (by decide +kernel) (acmpF (c := .ge) (by show _ < _; omega)) ?_
      refine y_same (i := .iload_n 1) (len := 1) (r := (0, 0, 0, 0)) (pc' := 33) (ls' := [some (.inl (some 52)), some (zi xb), some (zi xs), some (zi xk), some (zi y3261)]) (st' := [zi xb]) (by decide +kernel) (fun k q => by cases q) rfl ?_
      refine y_ic (c := 1) (len := 1) (r := (0, 0, 0, 0)) (by decide +kernel) (by decide) (fun y3263 hy3263 => ?_)
      refine y_same (i := .aload_n 0) (len := 1) (r := (0, 0, 0, 0)) (pc' := 35) (ls' := [some (.inl (some 52)), some (zi xb), some (zi xs), some (zi xk), some (zi y3261)]) (st' := [.inl (some 52), zi y3263, zi xb]) (by decide +kernel) (fun k q => by cases q) rfl ?_
      refine y_get (j := 20) (len := 3) (r := (12, 9, 2, 1337)) (by decide +kernel) hg (t52 hg) at52 rfl rfl (g_r52 (f := 9) (T2 := 55) hg rfl (by decide)).1 ?_
      refine y_same (i := .iload_n 2) (len := 1) (r := (0, 0, 0, 0)) (pc' := 39) (ls' := [some (.inl (some 52)), some (zi xb), some (zi xs), some (zi xk), some (zi y3261)]) (st' := [zi xs, .inl (some 55), zi y3263, zi xb]) (by decide +kernel) (fun k q => by cases q) rfl ?_
      refine y_same (i := .iload_n 3) (len := 1) (r := (0, 0, 0, 0)) (pc' := 40) (ls' := [some (.inl (some 52)), some (zi xb), some (zi xs), some (zi xk), some (zi y3261)]) (st' := [zi xk, zi xs, .inl (some 55), zi y3263, zi xb]) (by decide +kernel) (fun k q => by cases q) rfl ?_
      refine y_cI (i := .invokestatic 147) (len := 3) (r := (1, 168, 12, 1546)) (nL := 2) (k := 1) (n := 2) (hs := []) (args := [zi xs, zi xk]) (rest := [.inl (some 55), zi y3263, zi xb]) (l0 := [some (zi xs), some (zi xk)]) (by decide +kernel) (Or.inl ⟨_, rfl⟩) rfl rfl rfl rfl (Nat.le_of_ble_eq_true rfl) rfl rfl (qI_le (by decide) (m_partAt (d := 0) (s := 1) (k := k) (by omega) (by omega) (by omega) (by omega))) (fun y3264 qy3264 hRy3264 => ?_)
      obtain ⟨rfl, hy3264⟩ := hRy3264
      refine y_same (i := .iload 4) (len := 2) (r := (0, 0, 0, 0)) (pc' := 45) (ls' := [some (.inl (some 52)), some (zi xb), some (zi xs), some (zi xk), some (zi y3261)]) (st' := [zi y3261, zi y3264, .inl (some 55), zi y3263, zi xb]) (by decide +kernel) (fun k q => by cases q) rfl ?_
      refine y_add (len := 1) (r := (0, 0, 0, 0)) (by decide +kernel) (by omega) (by omega) (fun y3265 hy3265 => ?_)
      refine y_ial (i := ((48 + 4 * k) + 1)) (len := 1) (r := (0, 0, 0, 0)) (by decide +kernel) hg (tv55 hg) av55 (by omega) hv19 ?_
      refine y_bp (i := .ishl) (f := fun x y => x <<< (y &&& 31)) (len := 1) (r := (0, 0, 0, 0)) (by decide +kernel) rfl rfl (fun y3266 hy3266 => ?_)
      have hy3266 : y3266 = y3263 <<< (v19 &&& 31) := hy3266
      refine y_bp (i := .ior) (f := fun x y => x ||| y) (len := 1) (r := (0, 0, 0, 0)) (by decide +kernel) rfl rfl (fun y3267 hy3267 => ?_)
      have hy3267 : y3267 = xb ||| y3266 := hy3267
      refine y_same (i := .istore_n 1) (len := 1) (r := (0, 0, 0, 0)) (pc' := 50) (ls' := [some (.inl (some 52)), some (zi y3267), some (zi xs), some (zi xk), some (zi y3261)]) (st' := []) (by decide +kernel) (fun k q => by cases q) rfl ?_
      refine y_inc (j := 4) (a := y3261) (c := 1) (ls' := fun v => [some (.inl (some 52)), some (zi y3267), some (zi xs), some (zi xk), some v]) (len := 3) (r := (0, 0, 0, 0)) (by decide +kernel) rfl (fun _ => rfl) (by decide) (by omega) (by omega) (fun y3268 hy3268 => ?_)
      show qX 20 192 53 [some (.inl (some 52)), some (zi y3267), some (zi xs), some (zi xk), some (zi y3268)] [] h t _
      refine y_goto (off := (-27)) (pc' := 26) (len := 3) (r := (0, 0, 0, 0)) (by decide +kernel) (by decide +kernel) ?_
      refine y_same (i := .iload 4) (len := 2) (r := (0, 0, 0, 0)) (pc' := 28) (ls' := [some (.inl (some 52)), some (zi y3267), some (zi xs), some (zi xk), some (zi y3268)]) (st' := [zi y3268]) (by decide +kernel) (fun k q => by cases q) rfl ?_
      refine y_ic (c := 4) (len := 1) (r := (0, 0, 0, 0)) (by decide +kernel) (by decide) (fun y3269 hy3269 => ?_)
      refine y_cF (c := .ge) (off := 27) (len := 3) (r := (0, 0, 0, 0)) (by decide +kernel) (acmpF (c := .ge) (by show _ < _; omega)) ?_
      refine y_same (i := .iload_n 1) (len := 1) (r := (0, 0, 0, 0)) (pc' := 33) (ls' := [some (.inl (some 52)), some (zi y3267), some (zi xs), some (zi xk), some (zi y3268)]) (st' := [zi y3267]) (by decide +kernel) (fun k q => by cases q) rfl ?_
      refine y_ic (c := 1) (len := 1) (r := (0, 0, 0, 0)) (by decide +kernel) (by decide) (fun y3270 hy3270 => ?_)
      refine y_same (i := .aload_n 0) (len := 1) (r := (0, 0, 0, 0)) (pc' := 35) (ls' := [some (.inl (some 52)), some (zi y3267), some (zi xs), some (zi xk), some (zi y3268)]) (st' := [.inl (some 52), zi y3270, zi y3267]) (by decide +kernel) (fun k q => by cases q) rfl ?_
      refine y_get (j := 20) (len := 3) (r := (12, 9, 2, 1337)) (by decide +kernel) hg (t52 hg) at52 rfl rfl (g_r52 (f := 9) (T2 := 55) hg rfl (by decide)).1 ?_
      refine y_same (i := .iload_n 2) (len := 1) (r := (0, 0, 0, 0)) (pc' := 39) (ls' := [some (.inl (some 52)), some (zi y3267), some (zi xs), some (zi xk), some (zi y3268)]) (st' := [zi xs, .inl (some 55), zi y3270, zi y3267]) (by decide +kernel) (fun k q => by cases q) rfl ?_
      refine y_same (i := .iload_n 3) (len := 1) (r := (0, 0, 0, 0)) (pc' := 40) (ls' := [some (.inl (some 52)), some (zi y3267), some (zi xs), some (zi xk), some (zi y3268)]) (st' := [zi xk, zi xs, .inl (some 55), zi y3270, zi y3267]) (by decide +kernel) (fun k q => by cases q) rfl ?_
      refine y_cI (i := .invokestatic 147) (len := 3) (r := (1, 168, 12, 1546)) (nL := 2) (k := 1) (n := 2) (hs := []) (args := [zi xs, zi xk]) (rest := [.inl (some 55), zi y3270, zi y3267]) (l0 := [some (zi xs), some (zi xk)]) (by decide +kernel) (Or.inl ⟨_, rfl⟩) rfl rfl rfl rfl (Nat.le_of_ble_eq_true rfl) rfl rfl (qI_le (by decide) (m_partAt (d := 0) (s := 1) (k := k) (by omega) (by omega) (by omega) (by omega))) (fun y3271 qy3271 hRy3271 => ?_)
      obtain ⟨rfl, hy3271⟩ := hRy3271
      refine y_same (i := .iload 4) (len := 2) (r := (0, 0, 0, 0)) (pc' := 45) (ls' := [some (.inl (some 52)), some (zi y3267), some (zi xs), some (zi xk), some (zi y3268)]) (st' := [zi y3268, zi y3271, .inl (some 55), zi y3270, zi y3267]) (by decide +kernel) (fun k q => by cases q) rfl ?_
      refine y_add (len := 1) (r := (0, 0, 0, 0)) (by decide +kernel) (by omega) (by omega) (fun y3272 hy3272 => ?_)
      refine y_ial (i := ((48 + 4 * k) + 2)) (len := 1) (r := (0, 0, 0, 0)) (by decide +kernel) hg (tv55 hg) av55 (by omega) hv29 ?_
      refine y_bp (i := .ishl) (f := fun x y => x <<< (y &&& 31)) (len := 1) (r := (0, 0, 0, 0)) (by decide +kernel) rfl rfl (fun y3273 hy3273 => ?_)
      have hy3273 : y3273 = y3270 <<< (v29 &&& 31) := hy3273
      refine y_bp (i := .ior) (f := fun x y => x ||| y) (len := 1) (r := (0, 0, 0, 0)) (by decide +kernel) rfl rfl (fun y3274 hy3274 => ?_)
      have hy3274 : y3274 = y3267 ||| y3273 := hy3274
      refine y_same (i := .istore_n 1) (len := 1) (r := (0, 0, 0, 0)) (pc' := 50) (ls' := [some (.inl (some 52)), some (zi y3274), some (zi xs), some (zi xk), some (zi y3268)]) (st' := []) (by decide +kernel) (fun k q => by cases q) rfl ?_
      refine y_inc (j := 4) (a := y3268) (c := 1) (ls' := fun v => [some (.inl (some 52)), some (zi y3274), some (zi xs), some (zi xk), some v]) (len := 3) (r := (0, 0, 0, 0)) (by decide +kernel) rfl (fun _ => rfl) (by decide) (by omega) (by omega) (fun y3275 hy3275 => ?_)
      show qX 20 192 53 [some (.inl (some 52)), some (zi y3274), some (zi xs), some (zi xk), some (zi y3275)] [] h t _
      refine y_goto (off := (-27)) (pc' := 26) (len := 3) (r := (0, 0, 0, 0)) (by decide +kernel) (by decide +kernel) ?_
      refine y_same (i := .iload 4) (len := 2) (r := (0, 0, 0, 0)) (pc' := 28) (ls' := [some (.inl (some 52)), some (zi y3274), some (zi xs), some (zi xk), some (zi y3275)]) (st' := [zi y3275]) (by decide +kernel) (fun k q => by cases q) rfl ?_
      refine y_ic (c := 4) (len := 1) (r := (0, 0, 0, 0)) (by decide +kernel) (by decide) (fun y3276 hy3276 => ?_)
      refine y_cF (c := .ge) (off := 27) (len := 3) (r := (0, 0, 0, 0)) (by decide +kernel) (acmpF (c := .ge) (by show _ < _; omega)) ?_
      refine y_same (i := .iload_n 1) (len := 1) (r := (0, 0, 0, 0)) (pc' := 33) (ls' := [some (.inl (some 52)), some (zi y3274), some (zi xs), some (zi xk), some (zi y3275)]) (st' := [zi y3274]) (by decide +kernel) (fun k q => by cases q) rfl ?_
      refine y_ic (c := 1) (len := 1) (r := (0, 0, 0, 0)) (by decide +kernel) (by decide) (fun y3277 hy3277 => ?_)
      refine y_same (i := .aload_n 0) (len := 1) (r := (0, 0, 0, 0)) (pc' := 35) (ls' := [some (.inl (some 52)), some (zi y3274), some (zi xs), some (zi xk), some (zi y3275)]) (st' := [.inl (some 52), zi y3277, zi y3274]) (by decide +kernel) (fun k q => by cases q) rfl ?_
      refine y_get (j := 20) (len := 3) (r := (12, 9, 2, 1337)) (by decide +kernel) hg (t52 hg) at52 rfl rfl (g_r52 (f := 9) (T2 := 55) hg rfl (by decide)).1 ?_
      refine y_same (i := .iload_n 2) (len := 1) (r := (0, 0, 0, 0)) (pc' := 39) (ls' := [some (.inl (some 52)), some (zi y3274), some (zi xs), some (zi xk), some (zi y3275)]) (st' := [zi xs, .inl (some 55), zi y3277, zi y3274]) (by decide +kernel) (fun k q => by cases q) rfl ?_
      refine y_same (i := .iload_n 3) (len := 1) (r := (0, 0, 0, 0)) (pc' := 40) (ls' := [some (.inl (some 52)), some (zi y3274), some (zi xs), some (zi xk), some (zi y3275)]) (st' := [zi xk, zi xs, .inl (some 55), zi y3277, zi y3274]) (by decide +kernel) (fun k q => by cases q) rfl ?_
      refine y_cI (i := .invokestatic 147) (len := 3) (r := (1, 168, 12, 1546)) (nL := 2) (k := 1) (n := 2) (hs := []) (args := [zi xs, zi xk]) (rest := [.inl (some 55), zi y3277, zi y3274]) (l0 := [some (zi xs), some (zi xk)]) (by decide +kernel) (Or.inl ⟨_, rfl⟩) rfl rfl rfl rfl (Nat.le_of_ble_eq_true rfl) rfl rfl (qI_le (by decide) (m_partAt (d := 0) (s := 1) (k := k) (by omega) (by omega) (by omega) (by omega))) (fun y3278 qy3278 hRy3278 => ?_)
      obtain ⟨rfl, hy3278⟩ := hRy3278
      refine y_same (i := .iload 4) (len := 2) (r := (0, 0, 0, 0)) (pc' := 45) (ls' := [some (.inl (some 52)), some (zi y3274), some (zi xs), some (zi xk), some (zi y3275)]) (st' := [zi y3275, zi y3278, .inl (some 55), zi y3277, zi y3274]) (by decide +kernel) (fun k q => by cases q) rfl ?_
      refine y_add (len := 1) (r := (0, 0, 0, 0)) (by decide +kernel) (by omega) (by omega) (fun y3279 hy3279 => ?_)
      refine y_ial (i := ((48 + 4 * k) + 3)) (len := 1) (r := (0, 0, 0, 0)) (by decide +kernel) hg (tv55 hg) av55 (by omega) hv39 ?_
      refine y_bp (i := .ishl) (f := fun x y => x <<< (y &&& 31)) (len := 1) (r := (0, 0, 0, 0)) (by decide +kernel) rfl rfl (fun y3280 hy3280 => ?_)
      have hy3280 : y3280 = y3277 <<< (v39 &&& 31) := hy3280
      refine y_bp (i := .ior) (f := fun x y => x ||| y) (len := 1) (r := (0, 0, 0, 0)) (by decide +kernel) rfl rfl (fun y3281 hy3281 => ?_)
      have hy3281 : y3281 = y3274 ||| y3280 := hy3281
      refine y_same (i := .istore_n 1) (len := 1) (r := (0, 0, 0, 0)) (pc' := 50) (ls' := [some (.inl (some 52)), some (zi y3281), some (zi xs), some (zi xk), some (zi y3275)]) (st' := []) (by decide +kernel) (fun k q => by cases q) rfl ?_
      refine y_inc (j := 4) (a := y3275) (c := 1) (ls' := fun v => [some (.inl (some 52)), some (zi y3281), some (zi xs), some (zi xk), some v]) (len := 3) (r := (0, 0, 0, 0)) (by decide +kernel) rfl (fun _ => rfl) (by decide) (by omega) (by omega) (fun y3282 hy3282 => ?_)
      show qX 20 192 53 [some (.inl (some 52)), some (zi y3281), some (zi xs), some (zi xk), some (zi y3282)] [] h t _
      refine y_goto (off := (-27)) (pc' := 26) (len := 3) (r := (0, 0, 0, 0)) (by decide +kernel) (by decide +kernel) ?_
      refine y_same (i := .iload 4) (len := 2) (r := (0, 0, 0, 0)) (pc' := 28) (ls' := [some (.inl (some 52)), some (zi y3281), some (zi xs), some (zi xk), some (zi y3282)]) (st' := [zi y3282]) (by decide +kernel) (fun k q => by cases q) rfl ?_
      refine y_ic (c := 4) (len := 1) (r := (0, 0, 0, 0)) (by decide +kernel) (by decide) (fun y3283 hy3283 => ?_)
      refine y_cT (c := .ge) (off := 27) (pc' := 56) (len := 3) (r := (0, 0, 0, 0)) (by decide +kernel) (acmpT (c := .ge) (by show _ ≤ _; omega)) (by decide +kernel) ?_
      refine y_inc (j := 3) (a := xk) (c := 1) (ls' := fun v => [some (.inl (some 52)), some (zi y3281), some (zi xs), some v, some (zi y3282)]) (len := 3) (r := (0, 0, 0, 0)) (by decide +kernel) rfl (fun _ => rfl) (by decide) (by omega) (by omega) (fun y3284 hy3284 => ?_)
      show qX 20 192 59 [some (.inl (some 52)), some (zi y3281), some (zi xs), some (zi y3284), some (zi y3282)] [] h t _
      refine y_goto (off := (-48)) (pc' := 11) (len := 3) (r := (0, 0, 0, 0)) (by decide +kernel) (by decide +kernel) ?_
      have s1 := shl_v (c := y3263) hy3263 ev19 (by show 0 ≤ ik.2.1; omega) (by show ik.2.1 ≤ 5; omega)
      rw [← hy3266] at s1
      have b1 : 2 ^ (cmp_ ik 1).toNat < 64 := p64 _ (by show ik.2.1.toNat < 6; omega)
      have o1 := or_v hxb s1 hs b1
      rw [← hy3267] at o1
      have s2 := shl_v (c := y3270) hy3270 ev29 (by show 0 ≤ ik.2.2.1; omega) (by show ik.2.2.1 ≤ 5; omega)
      rw [← hy3273] at s2
      have b2 : 2 ^ (cmp_ ik 2).toNat < 64 := p64 _ (by show ik.2.2.1.toNat < 6; omega)
      have o2 := or_v o1 s2 (or64 hs b1) b2
      rw [← hy3274] at o2
      have s3 := shl_v (c := y3277) hy3277 ev39 (by show 0 ≤ ik.2.2.2; omega) (by show ik.2.2.2 ≤ 5; omega)
      rw [← hy3280] at s3
      have b3 : 2 ^ (cmp_ ik 3).toNat < 64 := p64 _ (by show ik.2.2.2.toNat < 6; omega)
      have o3 := or_v o2 s3 (or64 (or64 hs b1) b2) b3
      rw [← hy3281] at o3
      have e9 : cur.2.1.drop k = ik :: cur.2.1.drop (k + 1) := by
        rw [List.drop_eq_getElem_cons q]
        congr 1
        exact Option.some.inj ((List.getElem?_eq_getElem q).symm.trans hk)
      rw [e9] at eN
      exact ih (k + 1) (s ||| bI_ ik) y3284 y3281 _ (by omega) (by rw [o3]; congr 2; unfold bI_; show _ = s ||| (2 ^ (cmp_ ik 1).toNat ||| 2 ^ (cmp_ ik 2).toNat ||| 2 ^ (cmp_ ik 3).toNat); rw [Nat.or_assoc, Nat.or_assoc, Nat.or_assoc]) (or64 hs (bI_64 okk)) (by omega) (by omega) eN
    ·
      obtain ⟨⟨xp0z, hp0z, ep0z⟩, ⟨xc0z, hc0z, ec0z⟩, ip0z, ic0z⟩ := rm.1.1
      obtain ⟨⟨xp1z, hp1z, ep1z⟩, ⟨xc1z, hc1z, ec1z⟩, ip1z, ic1z⟩ := rm.1.2
      have lz := len55 hg rm.1
      refine y_same (i := .iload_n 3) (len := 1) (r := (0, 0, 0, 0)) (pc' := 12) (ls' := [some (.inl (some 52)), some (zi xb), some (zi xs), some (zi xk), l4]) (st' := [zi xk]) (by decide +kernel) (fun k q => by cases q) rfl ?_
      refine y_same (i := .aload_n 0) (len := 1) (r := (0, 0, 0, 0)) (pc' := 13) (ls' := [some (.inl (some 52)), some (zi xb), some (zi xs), some (zi xk), l4]) (st' := [.inl (some 52), zi xk]) (by decide +kernel) (fun k q => by cases q) rfl ?_
      refine y_get (j := 20) (len := 3) (r := (12, 9, 2, 1337)) (by decide +kernel) hg (t52 hg) at52 rfl rfl (g_r52 (f := 9) (T2 := 55) hg rfl (by decide)).1 ?_
      refine y_same (i := .iload_n 2) (len := 1) (r := (0, 0, 0, 0)) (pc' := 17) (ls' := [some (.inl (some 52)), some (zi xb), some (zi xs), some (zi xk), l4]) (st' := [zi xs, .inl (some 55), zi xk]) (by decide +kernel) (fun k q => by cases q) rfl ?_
      refine y_cI (i := .invokestatic 143) (len := 3) (r := (1, 166, 12, 1543)) (nL := 2) (k := 1) (n := 2) (hs := []) (args := [.inl (some 55), zi xs]) (rest := [zi xk]) (l0 := [some (.inl (some 55)), some (zi xs)]) (by decide +kernel) (Or.inl ⟨_, rfl⟩) rfl rfl rfl rfl (Nat.le_of_ble_eq_true rfl) rfl rfl (qI_le (by decide) (m_parts (d := 0) (s := 1) hg (by omega) (by omega) hp1z)) (fun y3286 qy3286 hRy3286 => ?_)
      obtain ⟨rfl, rfl⟩ := hRy3286
      refine y_cT (c := .ge) (off := 42) (pc' := 62) (len := 3) (r := (0, 0, 0, 0)) (by decide +kernel) (acmpT (c := .ge) (by show _ ≤ _; omega)) (by decide +kernel) ?_
      rw [List.drop_of_length_le (by omega)] at eN
      exact kk _ _ _ (by rw [hxb, eN]; rfl)
theorem mv_c1 {t : Nat} {τ : List Nat} {h : zh} {cur : bsT} {hs : List bsT} {P : zo × zh × Nat → Prop} {xs : Int32} (hg : hG τ h) (rm : RM h cur hs) (ok : ∀ (j : Nat) (i : it4), cur.2.2[j]? = some i → okI i) (hxs : xs.toInt = 1) {N : Nat} (kk : ∀ (xb xk : Int32) (l4 : Option zv), xb = Int32.ofInt (N : Int) → qX 20 192 115 [some (.inl (some 52)), some (zi xb), some (zi xs), some (zi xk), l4] [] h t P) : ∀ (n k s : Nat) (xk xb : Int32) (l4 : Option zv), xk.toInt = (k : Int) → xb = Int32.ofInt (s : Int) → s < 64 → k ≤ cur.2.2.length → cur.2.2.length ≤ k + n → N = mC_ s (cur.2.2.drop k) → qX 20 192 64 [some (.inl (some 52)), some (zi xb), some (zi xs), some (zi xk), l4] [] h t P := by
  intro n
  induction n with
  | zero =>
    intro k s xk xb l4 hxk hxb hs9 hk9 hn eN
    have hs : s < 64 := hs9
    obtain ⟨⟨xp0z, hp0z, ep0z⟩, ⟨xc0z, hc0z, ec0z⟩, ip0z, ic0z⟩ := rm.1.1
    obtain ⟨⟨xp1z, hp1z, ep1z⟩, ⟨xc1z, hc1z, ec1z⟩, ip1z, ic1z⟩ := rm.1.2
    have lz := len55 hg rm.1
    refine y_same (i := .iload_n 3) (len := 1) (r := (0, 0, 0, 0)) (pc' := 65) (ls' := [some (.inl (some 52)), some (zi xb), some (zi xs), some (zi xk), l4]) (st' := [zi xk]) (by decide +kernel) (fun k q => by cases q) rfl ?_
    refine y_same (i := .aload_n 0) (len := 1) (r := (0, 0, 0, 0)) (pc' := 66) (ls' := [some (.inl (some 52)), some (zi xb), some (zi xs), some (zi xk), l4]) (st' := [.inl (some 52), zi xk]) (by decide +kernel) (fun k q => by cases q) rfl ?_
    refine y_get (j := 20) (len := 3) (r := (12, 9, 2, 1337)) (by decide +kernel) hg (t52 hg) at52 rfl rfl (g_r52 (f := 9) (T2 := 55) hg rfl (by decide)).1 ?_
    refine y_same (i := .iload_n 2) (len := 1) (r := (0, 0, 0, 0)) (pc' := 70) (ls' := [some (.inl (some 52)), some (zi xb), some (zi xs), some (zi xk), l4]) (st' := [zi xs, .inl (some 55), zi xk]) (by decide +kernel) (fun k q => by cases q) rfl ?_
    refine y_cI (i := .invokestatic 155) (len := 3) (r := (1, 167, 12, 1560)) (nL := 2) (k := 1) (n := 2) (hs := []) (args := [.inl (some 55), zi xs]) (rest := [zi xk]) (l0 := [some (.inl (some 55)), some (zi xs)]) (by decide +kernel) (Or.inl ⟨_, rfl⟩) rfl rfl rfl rfl (Nat.le_of_ble_eq_true rfl) rfl rfl (qI_le (by decide) (m_claims (d := 0) (s := 1) hg (by omega) (by omega) hc1z)) (fun y3305 qy3305 hRy3305 => ?_)
    obtain ⟨rfl, rfl⟩ := hRy3305
    refine y_cT (c := .ge) (off := 42) (pc' := 115) (len := 3) (r := (0, 0, 0, 0)) (by decide +kernel) (acmpT (c := .ge) (by show _ ≤ _; omega)) (by decide +kernel) ?_
    rw [List.drop_of_length_le (by omega)] at eN
    exact kk _ _ _ (by rw [hxb, eN]; rfl)
  | succ n ih =>
    intro k s xk xb l4 hxk hxb hs9 hk9 hn eN
    have hs : s < 64 := hs9
    rcases Nat.lt_or_ge k cur.2.2.length with q | q
    ·
      obtain ⟨⟨xp0z, hp0z, ep0z⟩, ⟨xc0z, hc0z, ec0z⟩, ip0z, ic0z⟩ := rm.1.1
      obtain ⟨⟨xp1z, hp1z, ep1z⟩, ⟨xc1z, hc1z, ec1z⟩, ip1z, ic1z⟩ := rm.1.2
      have lz := len55 hg rm.1
      obtain ⟨ik, hk⟩ : ∃ ik, cur.2.2[k]? = some ik := ⟨_, List.getElem?_eq_getElem q⟩
      have okk := ok k ik hk
      have okk2 := okk
      unfold okI at okk2
      obtain ⟨v19, hv19, ev19⟩ := qd_at (w := 1) (ic1z k ik hk) (by omega)
      have hv19 : hsl h 55 ((68 + 4 * k) + 1) = some (zi v19) := hv19
      obtain ⟨v29, hv29, ev29⟩ := qd_at (w := 2) (ic1z k ik hk) (by omega)
      have hv29 : hsl h 55 ((68 + 4 * k) + 2) = some (zi v29) := hv29
      refine y_same (i := .iload_n 3) (len := 1) (r := (0, 0, 0, 0)) (pc' := 65) (ls' := [some (.inl (some 52)), some (zi xb), some (zi xs), some (zi xk), l4]) (st' := [zi xk]) (by decide +kernel) (fun k q => by cases q) rfl ?_
      refine y_same (i := .aload_n 0) (len := 1) (r := (0, 0, 0, 0)) (pc' := 66) (ls' := [some (.inl (some 52)), some (zi xb), some (zi xs), some (zi xk), l4]) (st' := [.inl (some 52), zi xk]) (by decide +kernel) (fun k q => by cases q) rfl ?_
      refine y_get (j := 20) (len := 3) (r := (12, 9, 2, 1337)) (by decide +kernel) hg (t52 hg) at52 rfl rfl (g_r52 (f := 9) (T2 := 55) hg rfl (by decide)).1 ?_
      refine y_same (i := .iload_n 2) (len := 1) (r := (0, 0, 0, 0)) (pc' := 70) (ls' := [some (.inl (some 52)), some (zi xb), some (zi xs), some (zi xk), l4]) (st' := [zi xs, .inl (some 55), zi xk]) (by decide +kernel) (fun k q => by cases q) rfl ?_
      refine y_cI (i := .invokestatic 155) (len := 3) (r := (1, 167, 12, 1560)) (nL := 2) (k := 1) (n := 2) (hs := []) (args := [.inl (some 55), zi xs]) (rest := [zi xk]) (l0 := [some (.inl (some 55)), some (zi xs)]) (by decide +kernel) (Or.inl ⟨_, rfl⟩) rfl rfl rfl rfl (Nat.le_of_ble_eq_true rfl) rfl rfl (qI_le (by decide) (m_claims (d := 0) (s := 1) hg (by omega) (by omega) hc1z)) (fun y3287 qy3287 hRy3287 => ?_)
      obtain ⟨rfl, rfl⟩ := hRy3287
      refine y_cF (c := .ge) (off := 42) (len := 3) (r := (0, 0, 0, 0)) (by decide +kernel) (acmpF (c := .ge) (by show _ < _; omega)) ?_
      refine y_ic (c := 1) (len := 1) (r := (0, 0, 0, 0)) (by decide +kernel) (by decide) (fun y3288 hy3288 => ?_)
      refine y_same (i := .istore 4) (len := 2) (r := (0, 0, 0, 0)) (pc' := 79) (ls' := [some (.inl (some 52)), some (zi xb), some (zi xs), some (zi xk), some (zi y3288)]) (st' := []) (by decide +kernel) (fun k q => by cases q) rfl ?_
      refine y_same (i := .iload 4) (len := 2) (r := (0, 0, 0, 0)) (pc' := 81) (ls' := [some (.inl (some 52)), some (zi xb), some (zi xs), some (zi xk), some (zi y3288)]) (st' := [zi y3288]) (by decide +kernel) (fun k q => by cases q) rfl ?_
      refine y_ic (c := 3) (len := 1) (r := (0, 0, 0, 0)) (by decide +kernel) (by decide) (fun y3289 hy3289 => ?_)
      refine y_cF (c := .ge) (off := 27) (len := 3) (r := (0, 0, 0, 0)) (by decide +kernel) (acmpF (c := .ge) (by show _ < _; omega)) ?_
      refine y_same (i := .iload_n 1) (len := 1) (r := (0, 0, 0, 0)) (pc' := 86) (ls' := [some (.inl (some 52)), some (zi xb), some (zi xs), some (zi xk), some (zi y3288)]) (st' := [zi xb]) (by decide +kernel) (fun k q => by cases q) rfl ?_
      refine y_ic (c := 1) (len := 1) (r := (0, 0, 0, 0)) (by decide +kernel) (by decide) (fun y3290 hy3290 => ?_)
      refine y_same (i := .aload_n 0) (len := 1) (r := (0, 0, 0, 0)) (pc' := 88) (ls' := [some (.inl (some 52)), some (zi xb), some (zi xs), some (zi xk), some (zi y3288)]) (st' := [.inl (some 52), zi y3290, zi xb]) (by decide +kernel) (fun k q => by cases q) rfl ?_
      refine y_get (j := 20) (len := 3) (r := (12, 9, 2, 1337)) (by decide +kernel) hg (t52 hg) at52 rfl rfl (g_r52 (f := 9) (T2 := 55) hg rfl (by decide)).1 ?_
      refine y_same (i := .iload_n 2) (len := 1) (r := (0, 0, 0, 0)) (pc' := 92) (ls' := [some (.inl (some 52)), some (zi xb), some (zi xs), some (zi xk), some (zi y3288)]) (st' := [zi xs, .inl (some 55), zi y3290, zi xb]) (by decide +kernel) (fun k q => by cases q) rfl ?_
      refine y_same (i := .iload_n 3) (len := 1) (r := (0, 0, 0, 0)) (pc' := 93) (ls' := [some (.inl (some 52)), some (zi xb), some (zi xs), some (zi xk), some (zi y3288)]) (st' := [zi xk, zi xs, .inl (some 55), zi y3290, zi xb]) (by decide +kernel) (fun k q => by cases q) rfl ?_
      refine y_cI (i := .invokestatic 158) (len := 3) (r := (1, 169, 12, 1563)) (nL := 2) (k := 1) (n := 2) (hs := []) (args := [zi xs, zi xk]) (rest := [.inl (some 55), zi y3290, zi xb]) (l0 := [some (zi xs), some (zi xk)]) (by decide +kernel) (Or.inl ⟨_, rfl⟩) rfl rfl rfl rfl (Nat.le_of_ble_eq_true rfl) rfl rfl (qI_le (by decide) (m_claimAt (d := 0) (s := 1) (k := k) (by omega) (by omega) (by omega) (by omega))) (fun y3291 qy3291 hRy3291 => ?_)
      obtain ⟨rfl, hy3291⟩ := hRy3291
      refine y_same (i := .iload 4) (len := 2) (r := (0, 0, 0, 0)) (pc' := 98) (ls' := [some (.inl (some 52)), some (zi xb), some (zi xs), some (zi xk), some (zi y3288)]) (st' := [zi y3288, zi y3291, .inl (some 55), zi y3290, zi xb]) (by decide +kernel) (fun k q => by cases q) rfl ?_
      refine y_add (len := 1) (r := (0, 0, 0, 0)) (by decide +kernel) (by omega) (by omega) (fun y3292 hy3292 => ?_)
      refine y_ial (i := ((68 + 4 * k) + 1)) (len := 1) (r := (0, 0, 0, 0)) (by decide +kernel) hg (tv55 hg) av55 (by omega) hv19 ?_
      refine y_bp (i := .ishl) (f := fun x y => x <<< (y &&& 31)) (len := 1) (r := (0, 0, 0, 0)) (by decide +kernel) rfl rfl (fun y3293 hy3293 => ?_)
      have hy3293 : y3293 = y3290 <<< (v19 &&& 31) := hy3293
      refine y_bp (i := .ior) (f := fun x y => x ||| y) (len := 1) (r := (0, 0, 0, 0)) (by decide +kernel) rfl rfl (fun y3294 hy3294 => ?_)
      have hy3294 : y3294 = xb ||| y3293 := hy3294
      refine y_same (i := .istore_n 1) (len := 1) (r := (0, 0, 0, 0)) (pc' := 103) (ls' := [some (.inl (some 52)), some (zi y3294), some (zi xs), some (zi xk), some (zi y3288)]) (st' := []) (by decide +kernel) (fun k q => by cases q) rfl ?_
      refine y_inc (j := 4) (a := y3288) (c := 1) (ls' := fun v => [some (.inl (some 52)), some (zi y3294), some (zi xs), some (zi xk), some v]) (len := 3) (r := (0, 0, 0, 0)) (by decide +kernel) rfl (fun _ => rfl) (by decide) (by omega) (by omega) (fun y3295 hy3295 => ?_)
      show qX 20 192 106 [some (.inl (some 52)), some (zi y3294), some (zi xs), some (zi xk), some (zi y3295)] [] h t _
      refine y_goto (off := (-27)) (pc' := 79) (len := 3) (r := (0, 0, 0, 0)) (by decide +kernel) (by decide +kernel) ?_
      refine y_same (i := .iload 4) (len := 2) (r := (0, 0, 0, 0)) (pc' := 81) (ls' := [some (.inl (some 52)), some (zi y3294), some (zi xs), some (zi xk), some (zi y3295)]) (st' := [zi y3295]) (by decide +kernel) (fun k q => by cases q) rfl ?_
      refine y_ic (c := 3) (len := 1) (r := (0, 0, 0, 0)) (by decide +kernel) (by decide) (fun y3296 hy3296 => ?_)
      refine y_cF (c := .ge) (off := 27) (len := 3) (r := (0, 0, 0, 0)) (by decide +kernel) (acmpF (c := .ge) (by show _ < _; omega)) ?_
      refine y_same (i := .iload_n 1) (len := 1) (r := (0, 0, 0, 0)) (pc' := 86) (ls' := [some (.inl (some 52)), some (zi y3294), some (zi xs), some (zi xk), some (zi y3295)]) (st' := [zi y3294]) (by decide +kernel) (fun k q => by cases q) rfl ?_
      refine y_ic (c := 1) (len := 1) (r := (0, 0, 0, 0)) (by decide +kernel) (by decide) (fun y3297 hy3297 => ?_)
      refine y_same (i := .aload_n 0) (len := 1) (r := (0, 0, 0, 0)) (pc' := 88) (ls' := [some (.inl (some 52)), some (zi y3294), some (zi xs), some (zi xk), some (zi y3295)]) (st' := [.inl (some 52), zi y3297, zi y3294]) (by decide +kernel) (fun k q => by cases q) rfl ?_
      refine y_get (j := 20) (len := 3) (r := (12, 9, 2, 1337)) (by decide +kernel) hg (t52 hg) at52 rfl rfl (g_r52 (f := 9) (T2 := 55) hg rfl (by decide)).1 ?_
      refine y_same (i := .iload_n 2) (len := 1) (r := (0, 0, 0, 0)) (pc' := 92) (ls' := [some (.inl (some 52)), some (zi y3294), some (zi xs), some (zi xk), some (zi y3295)]) (st' := [zi xs, .inl (some 55), zi y3297, zi y3294]) (by decide +kernel) (fun k q => by cases q) rfl ?_
      refine y_same (i := .iload_n 3) (len := 1) (r := (0, 0, 0, 0)) (pc' := 93) (ls' := [some (.inl (some 52)), some (zi y3294), some (zi xs), some (zi xk), some (zi y3295)]) (st' := [zi xk, zi xs, .inl (some 55), zi y3297, zi y3294]) (by decide +kernel) (fun k q => by cases q) rfl ?_
      refine y_cI (i := .invokestatic 158) (len := 3) (r := (1, 169, 12, 1563)) (nL := 2) (k := 1) (n := 2) (hs := []) (args := [zi xs, zi xk]) (rest := [.inl (some 55), zi y3297, zi y3294]) (l0 := [some (zi xs), some (zi xk)]) (by decide +kernel) (Or.inl ⟨_, rfl⟩) rfl rfl rfl rfl (Nat.le_of_ble_eq_true rfl) rfl rfl (qI_le (by decide) (m_claimAt (d := 0) (s := 1) (k := k) (by omega) (by omega) (by omega) (by omega))) (fun y3298 qy3298 hRy3298 => ?_)
      obtain ⟨rfl, hy3298⟩ := hRy3298
      refine y_same (i := .iload 4) (len := 2) (r := (0, 0, 0, 0)) (pc' := 98) (ls' := [some (.inl (some 52)), some (zi y3294), some (zi xs), some (zi xk), some (zi y3295)]) (st' := [zi y3295, zi y3298, .inl (some 55), zi y3297, zi y3294]) (by decide +kernel) (fun k q => by cases q) rfl ?_
      refine y_add (len := 1) (r := (0, 0, 0, 0)) (by decide +kernel) (by omega) (by omega) (fun y3299 hy3299 => ?_)
      refine y_ial (i := ((68 + 4 * k) + 2)) (len := 1) (r := (0, 0, 0, 0)) (by decide +kernel) hg (tv55 hg) av55 (by omega) hv29 ?_
      refine y_bp (i := .ishl) (f := fun x y => x <<< (y &&& 31)) (len := 1) (r := (0, 0, 0, 0)) (by decide +kernel) rfl rfl (fun y3300 hy3300 => ?_)
      have hy3300 : y3300 = y3297 <<< (v29 &&& 31) := hy3300
      refine y_bp (i := .ior) (f := fun x y => x ||| y) (len := 1) (r := (0, 0, 0, 0)) (by decide +kernel) rfl rfl (fun y3301 hy3301 => ?_)
      have hy3301 : y3301 = y3294 ||| y3300 := hy3301
      refine y_same (i := .istore_n 1) (len := 1) (r := (0, 0, 0, 0)) (pc' := 103) (ls' := [some (.inl (some 52)), some (zi y3301), some (zi xs), some (zi xk), some (zi y3295)]) (st' := []) (by decide +kernel) (fun k q => by cases q) rfl ?_
      refine y_inc (j := 4) (a := y3295) (c := 1) (ls' := fun v => [some (.inl (some 52)), some (zi y3301), some (zi xs), some (zi xk), some v]) (len := 3) (r := (0, 0, 0, 0)) (by decide +kernel) rfl (fun _ => rfl) (by decide) (by omega) (by omega) (fun y3302 hy3302 => ?_)
      show qX 20 192 106 [some (.inl (some 52)), some (zi y3301), some (zi xs), some (zi xk), some (zi y3302)] [] h t _
      refine y_goto (off := (-27)) (pc' := 79) (len := 3) (r := (0, 0, 0, 0)) (by decide +kernel) (by decide +kernel) ?_
      refine y_same (i := .iload 4) (len := 2) (r := (0, 0, 0, 0)) (pc' := 81) (ls' := [some (.inl (some 52)), some (zi y3301), some (zi xs), some (zi xk), some (zi y3302)]) (st' := [zi y3302]) (by decide +kernel) (fun k q => by cases q) rfl ?_
      refine y_ic (c := 3) (len := 1) (r := (0, 0, 0, 0)) (by decide +kernel) (by decide) (fun y3303 hy3303 => ?_)
      refine y_cT (c := .ge) (off := 27) (pc' := 109) (len := 3) (r := (0, 0, 0, 0)) (by decide +kernel) (acmpT (c := .ge) (by show _ ≤ _; omega)) (by decide +kernel) ?_
      refine y_inc (j := 3) (a := xk) (c := 1) (ls' := fun v => [some (.inl (some 52)), some (zi y3301), some (zi xs), some v, some (zi y3302)]) (len := 3) (r := (0, 0, 0, 0)) (by decide +kernel) rfl (fun _ => rfl) (by decide) (by omega) (by omega) (fun y3304 hy3304 => ?_)
      show qX 20 192 112 [some (.inl (some 52)), some (zi y3301), some (zi xs), some (zi y3304), some (zi y3302)] [] h t _
      refine y_goto (off := (-48)) (pc' := 64) (len := 3) (r := (0, 0, 0, 0)) (by decide +kernel) (by decide +kernel) ?_
      have s1 := shl_v (c := y3290) hy3290 ev19 (by show 0 ≤ ik.2.1; omega) (by show ik.2.1 ≤ 5; omega)
      rw [← hy3293] at s1
      have b1 : 2 ^ (cmp_ ik 1).toNat < 64 := p64 _ (by show ik.2.1.toNat < 6; omega)
      have o1 := or_v hxb s1 hs b1
      rw [← hy3294] at o1
      have s2 := shl_v (c := y3297) hy3297 ev29 (by show 0 ≤ ik.2.2.1; omega) (by show ik.2.2.1 ≤ 5; omega)
      rw [← hy3300] at s2
      have b2 : 2 ^ (cmp_ ik 2).toNat < 64 := p64 _ (by show ik.2.2.1.toNat < 6; omega)
      have o2 := or_v o1 s2 (or64 hs b1) b2
      rw [← hy3301] at o2
      have e9 : cur.2.2.drop k = ik :: cur.2.2.drop (k + 1) := by
        rw [List.drop_eq_getElem_cons q]
        congr 1
        exact Option.some.inj ((List.getElem?_eq_getElem q).symm.trans hk)
      rw [e9] at eN
      exact ih (k + 1) (s ||| bC_ ik) y3304 y3301 _ (by omega) (by rw [o2]; congr 2; unfold bC_; show _ = s ||| (2 ^ (cmp_ ik 1).toNat ||| 2 ^ (cmp_ ik 2).toNat); rw [Nat.or_assoc]) (or64 hs (bC_64 okk)) (by omega) (by omega) eN
    ·
      obtain ⟨⟨xp0z, hp0z, ep0z⟩, ⟨xc0z, hc0z, ec0z⟩, ip0z, ic0z⟩ := rm.1.1
      obtain ⟨⟨xp1z, hp1z, ep1z⟩, ⟨xc1z, hc1z, ec1z⟩, ip1z, ic1z⟩ := rm.1.2
      have lz := len55 hg rm.1
      refine y_same (i := .iload_n 3) (len := 1) (r := (0, 0, 0, 0)) (pc' := 65) (ls' := [some (.inl (some 52)), some (zi xb), some (zi xs), some (zi xk), l4]) (st' := [zi xk]) (by decide +kernel) (fun k q => by cases q) rfl ?_
      refine y_same (i := .aload_n 0) (len := 1) (r := (0, 0, 0, 0)) (pc' := 66) (ls' := [some (.inl (some 52)), some (zi xb), some (zi xs), some (zi xk), l4]) (st' := [.inl (some 52), zi xk]) (by decide +kernel) (fun k q => by cases q) rfl ?_
      refine y_get (j := 20) (len := 3) (r := (12, 9, 2, 1337)) (by decide +kernel) hg (t52 hg) at52 rfl rfl (g_r52 (f := 9) (T2 := 55) hg rfl (by decide)).1 ?_
      refine y_same (i := .iload_n 2) (len := 1) (r := (0, 0, 0, 0)) (pc' := 70) (ls' := [some (.inl (some 52)), some (zi xb), some (zi xs), some (zi xk), l4]) (st' := [zi xs, .inl (some 55), zi xk]) (by decide +kernel) (fun k q => by cases q) rfl ?_
      refine y_cI (i := .invokestatic 155) (len := 3) (r := (1, 167, 12, 1560)) (nL := 2) (k := 1) (n := 2) (hs := []) (args := [.inl (some 55), zi xs]) (rest := [zi xk]) (l0 := [some (.inl (some 55)), some (zi xs)]) (by decide +kernel) (Or.inl ⟨_, rfl⟩) rfl rfl rfl rfl (Nat.le_of_ble_eq_true rfl) rfl rfl (qI_le (by decide) (m_claims (d := 0) (s := 1) hg (by omega) (by omega) hc1z)) (fun y3306 qy3306 hRy3306 => ?_)
      obtain ⟨rfl, rfl⟩ := hRy3306
      refine y_cT (c := .ge) (off := 42) (pc' := 115) (len := 3) (r := (0, 0, 0, 0)) (by decide +kernel) (acmpT (c := .ge) (by show _ ≤ _; omega)) (by decide +kernel) ?_
      rw [List.drop_of_length_le (by omega)] at eN
      exact kk _ _ _ (by rw [hxb, eN]; rfl)
theorem m_vars {t : Nat} {τ : List Nat} {h : zh} {cur : bsT} {hs : List bsT} (hg : hG τ h) (rm : RM h cur hs) (ok : (∀ (j : Nat) (i : it4), cur.1.1[j]? = some i → okI i) ∧ (∀ (j : Nat) (i : it4), cur.1.2[j]? = some i → okI i) ∧ (∀ (j : Nat) (i : it4), cur.2.1[j]? = some i → okI i) ∧ ∀ (j : Nat) (i : it4), cur.2.2[j]? = some i → okI i) (cz : cz1 cur) : qI 21 192 [some (.inl (some 52)), none, none, none, none] h t (fun y h1 => h = h1 ∧ y = Int32.ofInt ((letN cur : Nat) : Int)) := by
  have k1 := mS_64 (s := 0) (by omega) (ok_mem ok.1)
  have k2 := mC_64 k1 (ok_mem ok.2.1)
  have k3 := mS_64 k2 (ok_mem ok.2.2.1)
  have k4 := mC_64 k3 (ok_mem ok.2.2.2)
  refine qI_of ?_
  refine y_ic (c := 0) (len := 1) (r := (0, 0, 0, 0)) (by decide +kernel) (by decide) (fun y3307 hy3307 => ?_)
  refine y_same (i := .istore_n 1) (len := 1) (r := (0, 0, 0, 0)) (pc' := 2) (ls' := [some (.inl (some 52)), some (zi y3307), none, none, none]) (st' := []) (by decide +kernel) (fun k q => by cases q) rfl ?_
  refine y_ic (c := 0) (len := 1) (r := (0, 0, 0, 0)) (by decide +kernel) (by decide) (fun y3308 hy3308 => ?_)
  refine y_same (i := .istore_n 2) (len := 1) (r := (0, 0, 0, 0)) (pc' := 4) (ls' := [some (.inl (some 52)), some (zi y3307), some (zi y3308), none, none]) (st' := []) (by decide +kernel) (fun k q => by cases q) rfl ?_
  refine y_same (i := .iload_n 2) (len := 1) (r := (0, 0, 0, 0)) (pc' := 5) (ls' := [some (.inl (some 52)), some (zi y3307), some (zi y3308), none, none]) (st' := [zi y3308]) (by decide +kernel) (fun k q => by cases q) rfl ?_
  refine y_ic (c := 2) (len := 1) (r := (0, 0, 0, 0)) (by decide +kernel) (by decide) (fun y3309 hy3309 => ?_)
  refine y_cF (c := .ge) (off := 115) (len := 3) (r := (0, 0, 0, 0)) (by decide +kernel) (acmpF (c := .ge) (by show _ < _; omega)) ?_
  refine y_ic (c := 0) (len := 1) (r := (0, 0, 0, 0)) (by decide +kernel) (by decide) (fun y3310 hy3310 => ?_)
  refine y_same (i := .istore_n 3) (len := 1) (r := (0, 0, 0, 0)) (pc' := 11) (ls' := [some (.inl (some 52)), some (zi y3307), some (zi y3308), some (zi y3310), none]) (st' := []) (by decide +kernel) (fun k q => by cases q) rfl ?_
  refine mv_p0 hg rm ok.1 (by omega) (N := mS_ 0 cur.1.1) (fun xb1 xk1 l41 eb1 => ?_) cur.1.1.length 0 0 y3310 y3307 _ (by omega) (i32_of (by omega)) (by omega) (by omega) (by omega) rfl
  refine y_ic (c := 0) (len := 1) (r := (0, 0, 0, 0)) (by decide +kernel) (by decide) (fun y3311 hy3311 => ?_)
  refine y_same (i := .istore_n 3) (len := 1) (r := (0, 0, 0, 0)) (pc' := 64) (ls' := [some (.inl (some 52)), some (zi xb1), some (zi y3308), some (zi y3311), l41]) (st' := []) (by decide +kernel) (fun k q => by cases q) rfl ?_
  refine mv_c0 hg rm ok.2.1 (by omega) (N := mC_ (mS_ 0 cur.1.1) cur.1.2) (fun xb2 xk2 l42 eb2 => ?_) cur.1.2.length 0 _ y3311 _ _ (by omega) eb1 k1 (by omega) (by omega) rfl
  refine y_inc (j := 2) (a := y3308) (c := 1) (ls' := fun v => [some (.inl (some 52)), some (zi xb2), some v, some (zi xk2), l42]) (len := 3) (r := (0, 0, 0, 0)) (by decide +kernel) rfl (fun _ => rfl) (by decide) (by omega) (by omega) (fun y3312 hy3312 => ?_)
  show qX 20 192 118 [some (.inl (some 52)), some (zi xb2), some (zi y3312), some (zi xk2), l42] [] h t _
  refine y_goto (off := (-114)) (pc' := 4) (len := 3) (r := (0, 0, 0, 0)) (by decide +kernel) (by decide +kernel) ?_
  refine y_same (i := .iload_n 2) (len := 1) (r := (0, 0, 0, 0)) (pc' := 5) (ls' := [some (.inl (some 52)), some (zi xb2), some (zi y3312), some (zi xk2), l42]) (st' := [zi y3312]) (by decide +kernel) (fun k q => by cases q) rfl ?_
  refine y_ic (c := 2) (len := 1) (r := (0, 0, 0, 0)) (by decide +kernel) (by decide) (fun y3313 hy3313 => ?_)
  refine y_cF (c := .ge) (off := 115) (len := 3) (r := (0, 0, 0, 0)) (by decide +kernel) (acmpF (c := .ge) (by show _ < _; omega)) ?_
  refine y_ic (c := 0) (len := 1) (r := (0, 0, 0, 0)) (by decide +kernel) (by decide) (fun y3314 hy3314 => ?_)
  refine y_same (i := .istore_n 3) (len := 1) (r := (0, 0, 0, 0)) (pc' := 11) (ls' := [some (.inl (some 52)), some (zi xb2), some (zi y3312), some (zi y3314), l42]) (st' := []) (by decide +kernel) (fun k q => by cases q) rfl ?_
  refine mv_p1 hg rm ok.2.2.1 (by omega) (N := mS_ (mC_ (mS_ 0 cur.1.1) cur.1.2) cur.2.1) (fun xb3 xk3 l43 eb3 => ?_) cur.2.1.length 0 _ y3314 _ _ (by omega) eb2 k2 (by omega) (by omega) rfl
  refine y_ic (c := 0) (len := 1) (r := (0, 0, 0, 0)) (by decide +kernel) (by decide) (fun y3315 hy3315 => ?_)
  refine y_same (i := .istore_n 3) (len := 1) (r := (0, 0, 0, 0)) (pc' := 64) (ls' := [some (.inl (some 52)), some (zi xb3), some (zi y3312), some (zi y3315), l43]) (st' := []) (by decide +kernel) (fun k q => by cases q) rfl ?_
  refine mv_c1 hg rm ok.2.2.2 (by omega) (N := mC_ (mS_ (mC_ (mS_ 0 cur.1.1) cur.1.2) cur.2.1) cur.2.2) (fun xb4 xk4 l44 eb4 => ?_) cur.2.2.length 0 _ y3315 _ _ (by omega) eb3 k3 (by omega) (by omega) rfl
  refine y_inc (j := 2) (a := y3312) (c := 1) (ls' := fun v => [some (.inl (some 52)), some (zi xb4), some v, some (zi xk4), l44]) (len := 3) (r := (0, 0, 0, 0)) (by decide +kernel) rfl (fun _ => rfl) (by decide) (by omega) (by omega) (fun y3316 hy3316 => ?_)
  show qX 20 192 118 [some (.inl (some 52)), some (zi xb4), some (zi y3316), some (zi xk4), l44] [] h t _
  refine y_goto (off := (-114)) (pc' := 4) (len := 3) (r := (0, 0, 0, 0)) (by decide +kernel) (by decide +kernel) ?_
  refine y_same (i := .iload_n 2) (len := 1) (r := (0, 0, 0, 0)) (pc' := 5) (ls' := [some (.inl (some 52)), some (zi xb4), some (zi y3316), some (zi xk4), l44]) (st' := [zi y3316]) (by decide +kernel) (fun k q => by cases q) rfl ?_
  refine y_ic (c := 2) (len := 1) (r := (0, 0, 0, 0)) (by decide +kernel) (by decide) (fun y3317 hy3317 => ?_)
  refine y_cT (c := .ge) (off := 115) (pc' := 121) (len := 3) (r := (0, 0, 0, 0)) (by decide +kernel) (acmpT (c := .ge) (by show _ ≤ _; omega)) (by decide +kernel) ?_
  refine y_same (i := .iload_n 1) (len := 1) (r := (0, 0, 0, 0)) (pc' := 122) (ls' := [some (.inl (some 52)), some (zi xb4), some (zi y3316), some (zi xk4), l44]) (st' := [zi xb4]) (by decide +kernel) (fun k q => by cases q) rfl ?_
  refine y_bi (c := (-2)) (len := 2) (r := (0, 0, 0, 0)) (by decide +kernel) (by decide) (fun y3318 hy3318 => ?_)
  refine y_bp (i := .iand) (f := fun x y => x &&& y) (len := 1) (r := (0, 0, 0, 0)) (by decide +kernel) rfl rfl (fun y3319 hy3319 => ?_)
  have hy3319 : y3319 = xb4 &&& y3318 := hy3319
  refine y_rI (len := 1) (r := (0, 0, 0, 0)) (nL := 5) (k := 1) (n9 := 1) (hs := []) (by decide +kernel) rfl rfl ?_
  refine ⟨rfl, ?_⟩
  rw [hy3319, eb4, ofI (w := -2) hy3318 rfl, an_tab _ k4, letN_eq cz]
theorem bl_tab : ∀ n : Nat, n < 64 → n ≠ 0 → (Int32.ofInt (n : Int) &&& (Int32.ofInt (n : Int) - 1)) = Int32.ofInt ((n &&& (n - 1) : Nat) : Int) ∧ (n &&& (n - 1)) < n ∧ pop6 (n &&& (n - 1)) + 1 = pop6 n := by decide +kernel
theorem pop_le : ∀ n : Nat, n < 64 → pop6 n ≤ 6 := by decide +kernel
theorem of_ne : ∀ n : Nat, n < 64 → n ≠ 0 → (Int32.ofInt (n : Int)).toInt ≠ 0 := by decide +kernel
theorem bits_l {d t : Nat} {h : zh} {xx : Int32} : ∀ (n s c : Nat) (xl xc : Int32), xl = Int32.ofInt (s : Int) → s < 64 → s ≤ n → xc.toInt = (c : Int) → c + pop6 s ≤ 6 → qX d 193 4 [some (zi xx), some (zi xc), some (zi xl)] [] h t (rI (fun y h1 => h = h1 ∧ y.toInt = ((c + pop6 s : Nat) : Int)) t) := by
  intro n
  induction n with
  | zero =>
    intro s c xl xc hxl hs hn hxc hcs
    have e0 : s = 0 := by omega
    subst e0
    have z0 : xl.toInt = 0 := by rw [hxl]; rfl
    refine y_same (i := .iload_n 2) (len := 1) (r := (0, 0, 0, 0)) (pc' := 5) (ls' := [some (zi xx), some (zi xc), some (zi xl)]) (st' := [zi xl]) (by decide +kernel) (fun k q => by cases q) rfl ?_
    refine y_iT (c := .eq) (off := 15) (pc' := 20) (len := 3) (r := (0, 0, 0, 0)) (by decide +kernel) (acmpT (c := .eq) (by show _ = _; omega)) (by decide +kernel) ?_
    refine y_same (i := .iload_n 1) (len := 1) (r := (0, 0, 0, 0)) (pc' := 21) (ls' := [some (zi xx), some (zi xc), some (zi xl)]) (st' := [zi xc]) (by decide +kernel) (fun k q => by cases q) rfl ?_
    refine y_rI (len := 1) (r := (0, 0, 0, 0)) (nL := 3) (k := 1) (n9 := 1) (hs := []) (by decide +kernel) rfl rfl ?_
    exact ⟨rfl, by rw [hxc]; rfl⟩
  | succ n ih =>
    intro s c xl xc hxl hs hn hxc hcs
    rcases Nat.eq_zero_or_pos s with q | q
    · subst q
      have z0 : xl.toInt = 0 := by rw [hxl]; rfl
      refine y_same (i := .iload_n 2) (len := 1) (r := (0, 0, 0, 0)) (pc' := 5) (ls' := [some (zi xx), some (zi xc), some (zi xl)]) (st' := [zi xl]) (by decide +kernel) (fun k q => by cases q) rfl ?_
      refine y_iT (c := .eq) (off := 15) (pc' := 20) (len := 3) (r := (0, 0, 0, 0)) (by decide +kernel) (acmpT (c := .eq) (by show _ = _; omega)) (by decide +kernel) ?_
      refine y_same (i := .iload_n 1) (len := 1) (r := (0, 0, 0, 0)) (pc' := 21) (ls' := [some (zi xx), some (zi xc), some (zi xl)]) (st' := [zi xc]) (by decide +kernel) (fun k q => by cases q) rfl ?_
      refine y_rI (len := 1) (r := (0, 0, 0, 0)) (nL := 3) (k := 1) (n9 := 1) (hs := []) (by decide +kernel) rfl rfl ?_
      exact ⟨rfl, by rw [hxc]; rfl⟩
    · have z0 : xl.toInt ≠ 0 := by rw [hxl]; exact of_ne s hs (by omega)
      obtain ⟨t1, t2, t3⟩ := bl_tab s hs (by omega)
      refine y_same (i := .iload_n 2) (len := 1) (r := (0, 0, 0, 0)) (pc' := 5) (ls' := [some (zi xx), some (zi xc), some (zi xl)]) (st' := [zi xl]) (by decide +kernel) (fun k q => by cases q) rfl ?_
      refine y_iF (c := .eq) (off := 15) (len := 3) (r := (0, 0, 0, 0)) (by decide +kernel) (acmpF (c := .eq) (by show ¬ (_ = _); omega)) ?_
      refine y_inc (j := 1) (a := xc) (c := 1) (ls' := fun v => [some (zi xx), some v, some (zi xl)]) (len := 3) (r := (0, 0, 0, 0)) (by decide +kernel) rfl (fun _ => rfl) (by decide) (by omega) (by omega) (fun y3320 hy3320 => ?_)
      show qX d 193 11 [some (zi xx), some (zi y3320), some (zi xl)] [] h t _
      refine y_same (i := .iload_n 2) (len := 1) (r := (0, 0, 0, 0)) (pc' := 12) (ls' := [some (zi xx), some (zi y3320), some (zi xl)]) (st' := [zi xl]) (by decide +kernel) (fun k q => by cases q) rfl ?_
      refine y_same (i := .iload_n 2) (len := 1) (r := (0, 0, 0, 0)) (pc' := 13) (ls' := [some (zi xx), some (zi y3320), some (zi xl)]) (st' := [zi xl, zi xl]) (by decide +kernel) (fun k q => by cases q) rfl ?_
      refine y_ic (c := 1) (len := 1) (r := (0, 0, 0, 0)) (by decide +kernel) (by decide) (fun y3321 hy3321 => ?_)
      refine y_bp (i := .isub) (f := fun x y => x - y) (len := 1) (r := (0, 0, 0, 0)) (by decide +kernel) rfl rfl (fun y3322 hy3322 => ?_)
      refine y_bp (i := .iand) (f := fun x y => x &&& y) (len := 1) (r := (0, 0, 0, 0)) (by decide +kernel) rfl rfl (fun y3323 hy3323 => ?_)
      have hy3323 : y3323 = xl &&& y3322 := hy3323
      refine y_same (i := .istore_n 2) (len := 1) (r := (0, 0, 0, 0)) (pc' := 17) (ls' := [some (zi xx), some (zi y3320), some (zi y3323)]) (st' := []) (by decide +kernel) (fun k q => by cases q) rfl ?_
      refine y_goto (off := (-13)) (pc' := 4) (len := 3) (r := (0, 0, 0, 0)) (by decide +kernel) (by decide +kernel) ?_
      have e9 : y3323 = Int32.ofInt ((s &&& (s - 1) : Nat) : Int) := by
        rw [hy3323, show y3322 = xl - y3321 from hy3322, ofI (w := 1) hy3321 rfl, hxl]
        exact t1
      refine qX_I (ih (s &&& (s - 1)) (c + 1) y3323 y3320 e9 (by omega) (by omega) (by omega) (by omega)) (fun y h1 hR => ⟨hR.1, ?_⟩)
      rw [hR.2]
      omega
theorem m_bits {d t s : Nat} {h : zh} {x : Int32} (hx : x = Int32.ofInt (s : Int)) (hs : s < 64) : qI (d + 1) 193 [some (zi x), none, none] h t (fun y h1 => h = h1 ∧ y.toInt = (pop6 s : Int)) := by
  have := pop_le s hs
  refine qI_of ?_
  refine y_ic (c := 0) (len := 1) (r := (0, 0, 0, 0)) (by decide +kernel) (by decide) (fun y3324 hy3324 => ?_)
  refine y_same (i := .istore_n 1) (len := 1) (r := (0, 0, 0, 0)) (pc' := 2) (ls' := [some (zi x), some (zi y3324), none]) (st' := []) (by decide +kernel) (fun k q => by cases q) rfl ?_
  refine y_same (i := .iload_n 0) (len := 1) (r := (0, 0, 0, 0)) (pc' := 3) (ls' := [some (zi x), some (zi y3324), none]) (st' := [zi x]) (by decide +kernel) (fun k q => by cases q) rfl ?_
  refine y_same (i := .istore_n 2) (len := 1) (r := (0, 0, 0, 0)) (pc' := 4) (ls' := [some (zi x), some (zi y3324), some (zi x)]) (st' := []) (by decide +kernel) (fun k q => by cases q) rfl ?_
  refine qX_I (bits_l 64 s 0 x y3324 hx hs (by omega) (by omega) (by omega)) (fun y h1 hR => ⟨hR.1, ?_⟩)
  rw [hR.2, Nat.zero_add]
theorem m_told0 {t T : Nat} {τ : List Nat} {h : zh} {cur : bsT} {hs : List bsT} {xw xT : Int32} (hg : hG τ h) (rm : RM h cur hs) (hT : hsl h 52 2 = some (zi xT)) (eT : xT.toInt = (T : Int)) (ok : (∀ (j : Nat) (i : it4), cur.1.1[j]? = some i → okI i) ∧ (∀ (j : Nat) (i : it4), cur.1.2[j]? = some i → okI i) ∧ (∀ (j : Nat) (i : it4), cur.2.1[j]? = some i → okI i) ∧ ∀ (j : Nat) (i : it4), cur.2.2[j]? = some i → okI i) (cz : cz1 cur) (hw : xw.toInt = 0) : qI 60 194 [some (.inl (some 52)), some (zi xw)] h t (fun y h1 => ∃ τ1, hG τ1 h1 ∧ RM h1 cur hs ∧ frM h h1 ∧ y.toInt = (cur.1.1.length : Int) ∧ ∃ z : Int32, hsl h1 52 0 = some (zi z) ∧ z.toInt = 0) := by
  refine qI_le (d := 31) (by decide) (qI_of ?_)
  have lz := len55 hg rm.1
  obtain ⟨⟨xp0z, hp0z, ep0z⟩, ⟨xc0z, hc0z, ec0z⟩, ip0z, ic0z⟩ := rm.1.1
  obtain ⟨⟨xp1z, hp1z, ep1z⟩, ⟨xc1z, hc1z, ec1z⟩, ip1z, ic1z⟩ := rm.1.2
  obtain ⟨xk, hk, ek⟩ := rm.2.2.1
  refine y_same (i := .aload_n 0) (len := 1) (r := (0, 0, 0, 0)) (pc' := 1) (ls' := [some (.inl (some 52)), some (zi xw)]) (st' := [.inl (some 52)]) (by decide +kernel) (fun k q => by cases q) rfl ?_
  refine y_ic (c := 0) (len := 1) (r := (0, 0, 0, 0)) (by decide +kernel) (by decide) (fun y3325 hy3325 => ?_)
  refine y_put (j := 92) (lo := (-2147483648)) (hi := 2147483647) (len := 3) (r := (12, 0, 0, 1328)) (by decide +kernel) hg (t52 hg) at52 rfl rfl (by decide) rfl (qin_full _).1 (qin_full _).2 rfl (fun h3326 hg3326 hl3326 hs3326 ho3326 => ?_)
  have ho3326 : hO 52 0 h h3326 := ho3326
  have hs3326 : hsl h3326 52 0 = some (zi y3325) := hs3326
  refine y_same (i := .aload_n 0) (len := 1) (r := (0, 0, 0, 0)) (pc' := 6) (ls' := [some (.inl (some 52)), some (zi xw)]) (st' := [.inl (some 52)]) (by decide +kernel) (fun k q => by cases q) rfl ?_
  refine y_same (i := .iload_n 1) (len := 1) (r := (0, 0, 0, 0)) (pc' := 7) (ls' := [some (.inl (some 52)), some (zi xw)]) (st' := [zi xw, .inl (some 52)]) (by decide +kernel) (fun k q => by cases q) rfl ?_
  refine y_ic (c := 0) (len := 1) (r := (0, 0, 0, 0)) (by decide +kernel) (by decide) (fun y3327 hy3327 => ?_)
  refine y_bi (c := 6) (len := 2) (r := (0, 0, 0, 0)) (by decide +kernel) (by decide) (fun y3328 hy3328 => ?_)
  refine y_cI (i := .invokestatic 200) (len := 3) (r := (1, 162, 12, 1486)) (nL := 3) (k := 2) (n := 3) (hs := []) (args := [zi xw, zi y3327, zi y3328]) (rest := [.inl (some 52)]) (l0 := [some (zi xw), some (zi y3327), some (zi y3328)]) (by decide +kernel) (Or.inl ⟨_, rfl⟩) rfl rfl rfl rfl (Nat.le_of_ble_eq_true rfl) rfl rfl (qI_le (by decide) (m_in (d := 0) (by omega) (by omega))) (fun y3329 qy3329 hRy3329 => ?_)
  obtain ⟨rfl, hy3329⟩ := hRy3329
  refine y_iT (c := .ne) (off := 7) (pc' := 20) (len := 3) (r := (0, 0, 0, 0)) (by decide +kernel) (acmpT (c := .ne) (by show ¬ (_ = _); omega)) (by decide +kernel) ?_
  refine y_ic (c := 0) (len := 1) (r := (0, 0, 0, 0)) (by decide +kernel) (by decide) (fun y3330 hy3330 => ?_)
  refine y_ic (c := 1) (len := 1) (r := (0, 0, 0, 0)) (by decide +kernel) (by decide) (fun y3331 hy3331 => ?_)
  refine y_ic (c := 1) (len := 1) (r := (0, 0, 0, 0)) (by decide +kernel) (by decide) (fun y3332 hy3332 => ?_)
  refine y_cI (i := .invokevirtual 204) (len := 3) (r := (0, 161, 12, 1489)) (nL := 4) (k := 2) (n := 4) (hs := []) (args := [.inl (some 52), zi y3330, zi y3331, zi y3332]) (rest := []) (l0 := [some (.inl (some 52)), some (zi y3330), some (zi y3331), some (zi y3332)]) (by decide +kernel) (Or.inr (Or.inl ⟨_, rfl⟩)) rfl rfl rfl rfl (Nat.le_of_ble_eq_true rfl) (z52 hg3326) rfl (qI_le (by decide) (m_bad (d := 0) hg3326 (by omega) hs3326 (by omega))) (fun y3333 qy3333 hRy3333 => ?_)
  obtain ⟨rfl, hy3333⟩ := hRy3333
  refine y_iT (c := .eq) (off := 5) (pc' := 31) (len := 3) (r := (0, 0, 0, 0)) (by decide +kernel) (acmpT (c := .eq) (by show _ = _; omega)) (by decide +kernel) ?_
  refine y_same (i := .iload_n 1) (len := 1) (r := (0, 0, 0, 0)) (pc' := 32) (ls' := [some (.inl (some 52)), some (zi xw)]) (st' := [zi xw]) (by decide +kernel) (fun k q => by cases q) rfl ?_
  refine y_ic (c := 2) (len := 1) (r := (0, 0, 0, 0)) (by decide +kernel) (by decide) (fun y3334 hy3334 => ?_)
  refine y_cF (c := .ge) (off := 14) (len := 3) (r := (0, 0, 0, 0)) (by decide +kernel) (acmpF (c := .ge) (by show _ < _; omega)) ?_
  refine y_same (i := .aload_n 0) (len := 1) (r := (0, 0, 0, 0)) (pc' := 37) (ls' := [some (.inl (some 52)), some (zi xw)]) (st' := [.inl (some 52)]) (by decide +kernel) (fun k q => by cases q) rfl ?_
  refine y_get (j := 20) (len := 3) (r := (12, 9, 2, 1337)) (by decide +kernel) hg3326 (t52 hg3326) at52 rfl rfl (g_r52 (f := 9) (T2 := 55) hg3326 rfl (by decide)).1 ?_
  refine y_same (i := .iload_n 1) (len := 1) (r := (0, 0, 0, 0)) (pc' := 41) (ls' := [some (.inl (some 52)), some (zi xw)]) (st' := [zi xw, .inl (some 55)]) (by decide +kernel) (fun k q => by cases q) rfl ?_
  have hv3336 := (ho3326 55 0 (Or.inl (by omega))).trans hp0z
  refine y_cI (i := .invokestatic 143) (len := 3) (r := (1, 166, 12, 1543)) (nL := 2) (k := 1) (n := 2) (hs := []) (args := [.inl (some 55), zi xw]) (rest := []) (l0 := [some (.inl (some 55)), some (zi xw)]) (by decide +kernel) (Or.inl ⟨_, rfl⟩) rfl rfl rfl rfl (Nat.le_of_ble_eq_true rfl) rfl rfl (qI_le (by decide) (m_parts (d := 0) (s := 0) hg3326 (by omega) (by omega) hv3336)) (fun y3335 qy3335 hRy3335 => ?_)
  obtain ⟨rfl, rfl⟩ := hRy3335
  refine y_goto (off := 52) (pc' := 96) (len := 3) (r := (0, 0, 0, 0)) (by decide +kernel) (by decide +kernel) ?_
  refine y_rI (len := 1) (r := (0, 0, 0, 0)) (nL := 2) (k := 1) (n9 := 2) (hs := []) (by decide +kernel) rfl rfl ?_
  exact ⟨_, hg3326, RM_up rm (fun k j hC => (ho3326 k j (by omega))), fun k j hC => (ho3326 k j (by omega)), by omega, _, hs3326, by omega⟩
theorem m_told1 {t T : Nat} {τ : List Nat} {h : zh} {cur : bsT} {hs : List bsT} {xw xT : Int32} (hg : hG τ h) (rm : RM h cur hs) (hT : hsl h 52 2 = some (zi xT)) (eT : xT.toInt = (T : Int)) (ok : (∀ (j : Nat) (i : it4), cur.1.1[j]? = some i → okI i) ∧ (∀ (j : Nat) (i : it4), cur.1.2[j]? = some i → okI i) ∧ (∀ (j : Nat) (i : it4), cur.2.1[j]? = some i → okI i) ∧ ∀ (j : Nat) (i : it4), cur.2.2[j]? = some i → okI i) (cz : cz1 cur) (hw : xw.toInt = 1) : qI 60 194 [some (.inl (some 52)), some (zi xw)] h t (fun y h1 => ∃ τ1, hG τ1 h1 ∧ RM h1 cur hs ∧ frM h h1 ∧ y.toInt = (cur.2.1.length : Int) ∧ ∃ z : Int32, hsl h1 52 0 = some (zi z) ∧ z.toInt = 0) := by
  refine qI_le (d := 31) (by decide) (qI_of ?_)
  have lz := len55 hg rm.1
  obtain ⟨⟨xp0z, hp0z, ep0z⟩, ⟨xc0z, hc0z, ec0z⟩, ip0z, ic0z⟩ := rm.1.1
  obtain ⟨⟨xp1z, hp1z, ep1z⟩, ⟨xc1z, hc1z, ec1z⟩, ip1z, ic1z⟩ := rm.1.2
  obtain ⟨xk, hk, ek⟩ := rm.2.2.1
  refine y_same (i := .aload_n 0) (len := 1) (r := (0, 0, 0, 0)) (pc' := 1) (ls' := [some (.inl (some 52)), some (zi xw)]) (st' := [.inl (some 52)]) (by decide +kernel) (fun k q => by cases q) rfl ?_
  refine y_ic (c := 0) (len := 1) (r := (0, 0, 0, 0)) (by decide +kernel) (by decide) (fun y3337 hy3337 => ?_)
  refine y_put (j := 92) (lo := (-2147483648)) (hi := 2147483647) (len := 3) (r := (12, 0, 0, 1328)) (by decide +kernel) hg (t52 hg) at52 rfl rfl (by decide) rfl (qin_full _).1 (qin_full _).2 rfl (fun h3338 hg3338 hl3338 hs3338 ho3338 => ?_)
  have ho3338 : hO 52 0 h h3338 := ho3338
  have hs3338 : hsl h3338 52 0 = some (zi y3337) := hs3338
  refine y_same (i := .aload_n 0) (len := 1) (r := (0, 0, 0, 0)) (pc' := 6) (ls' := [some (.inl (some 52)), some (zi xw)]) (st' := [.inl (some 52)]) (by decide +kernel) (fun k q => by cases q) rfl ?_
  refine y_same (i := .iload_n 1) (len := 1) (r := (0, 0, 0, 0)) (pc' := 7) (ls' := [some (.inl (some 52)), some (zi xw)]) (st' := [zi xw, .inl (some 52)]) (by decide +kernel) (fun k q => by cases q) rfl ?_
  refine y_ic (c := 0) (len := 1) (r := (0, 0, 0, 0)) (by decide +kernel) (by decide) (fun y3339 hy3339 => ?_)
  refine y_bi (c := 6) (len := 2) (r := (0, 0, 0, 0)) (by decide +kernel) (by decide) (fun y3340 hy3340 => ?_)
  refine y_cI (i := .invokestatic 200) (len := 3) (r := (1, 162, 12, 1486)) (nL := 3) (k := 2) (n := 3) (hs := []) (args := [zi xw, zi y3339, zi y3340]) (rest := [.inl (some 52)]) (l0 := [some (zi xw), some (zi y3339), some (zi y3340)]) (by decide +kernel) (Or.inl ⟨_, rfl⟩) rfl rfl rfl rfl (Nat.le_of_ble_eq_true rfl) rfl rfl (qI_le (by decide) (m_in (d := 0) (by omega) (by omega))) (fun y3341 qy3341 hRy3341 => ?_)
  obtain ⟨rfl, hy3341⟩ := hRy3341
  refine y_iT (c := .ne) (off := 7) (pc' := 20) (len := 3) (r := (0, 0, 0, 0)) (by decide +kernel) (acmpT (c := .ne) (by show ¬ (_ = _); omega)) (by decide +kernel) ?_
  refine y_ic (c := 0) (len := 1) (r := (0, 0, 0, 0)) (by decide +kernel) (by decide) (fun y3342 hy3342 => ?_)
  refine y_ic (c := 1) (len := 1) (r := (0, 0, 0, 0)) (by decide +kernel) (by decide) (fun y3343 hy3343 => ?_)
  refine y_ic (c := 1) (len := 1) (r := (0, 0, 0, 0)) (by decide +kernel) (by decide) (fun y3344 hy3344 => ?_)
  refine y_cI (i := .invokevirtual 204) (len := 3) (r := (0, 161, 12, 1489)) (nL := 4) (k := 2) (n := 4) (hs := []) (args := [.inl (some 52), zi y3342, zi y3343, zi y3344]) (rest := []) (l0 := [some (.inl (some 52)), some (zi y3342), some (zi y3343), some (zi y3344)]) (by decide +kernel) (Or.inr (Or.inl ⟨_, rfl⟩)) rfl rfl rfl rfl (Nat.le_of_ble_eq_true rfl) (z52 hg3338) rfl (qI_le (by decide) (m_bad (d := 0) hg3338 (by omega) hs3338 (by omega))) (fun y3345 qy3345 hRy3345 => ?_)
  obtain ⟨rfl, hy3345⟩ := hRy3345
  refine y_iT (c := .eq) (off := 5) (pc' := 31) (len := 3) (r := (0, 0, 0, 0)) (by decide +kernel) (acmpT (c := .eq) (by show _ = _; omega)) (by decide +kernel) ?_
  refine y_same (i := .iload_n 1) (len := 1) (r := (0, 0, 0, 0)) (pc' := 32) (ls' := [some (.inl (some 52)), some (zi xw)]) (st' := [zi xw]) (by decide +kernel) (fun k q => by cases q) rfl ?_
  refine y_ic (c := 2) (len := 1) (r := (0, 0, 0, 0)) (by decide +kernel) (by decide) (fun y3346 hy3346 => ?_)
  refine y_cF (c := .ge) (off := 14) (len := 3) (r := (0, 0, 0, 0)) (by decide +kernel) (acmpF (c := .ge) (by show _ < _; omega)) ?_
  refine y_same (i := .aload_n 0) (len := 1) (r := (0, 0, 0, 0)) (pc' := 37) (ls' := [some (.inl (some 52)), some (zi xw)]) (st' := [.inl (some 52)]) (by decide +kernel) (fun k q => by cases q) rfl ?_
  refine y_get (j := 20) (len := 3) (r := (12, 9, 2, 1337)) (by decide +kernel) hg3338 (t52 hg3338) at52 rfl rfl (g_r52 (f := 9) (T2 := 55) hg3338 rfl (by decide)).1 ?_
  refine y_same (i := .iload_n 1) (len := 1) (r := (0, 0, 0, 0)) (pc' := 41) (ls' := [some (.inl (some 52)), some (zi xw)]) (st' := [zi xw, .inl (some 55)]) (by decide +kernel) (fun k q => by cases q) rfl ?_
  have hv3348 := (ho3338 55 46 (Or.inl (by omega))).trans hp1z
  refine y_cI (i := .invokestatic 143) (len := 3) (r := (1, 166, 12, 1543)) (nL := 2) (k := 1) (n := 2) (hs := []) (args := [.inl (some 55), zi xw]) (rest := []) (l0 := [some (.inl (some 55)), some (zi xw)]) (by decide +kernel) (Or.inl ⟨_, rfl⟩) rfl rfl rfl rfl (Nat.le_of_ble_eq_true rfl) rfl rfl (qI_le (by decide) (m_parts (d := 0) (s := 1) hg3338 (by omega) (by omega) hv3348)) (fun y3347 qy3347 hRy3347 => ?_)
  obtain ⟨rfl, rfl⟩ := hRy3347
  refine y_goto (off := 52) (pc' := 96) (len := 3) (r := (0, 0, 0, 0)) (by decide +kernel) (by decide +kernel) ?_
  refine y_rI (len := 1) (r := (0, 0, 0, 0)) (nL := 2) (k := 1) (n9 := 2) (hs := []) (by decide +kernel) rfl rfl ?_
  exact ⟨_, hg3338, RM_up rm (fun k j hC => (ho3338 k j (by omega))), fun k j hC => (ho3338 k j (by omega)), by omega, _, hs3338, by omega⟩
theorem m_told2 {t T : Nat} {τ : List Nat} {h : zh} {cur : bsT} {hs : List bsT} {xw xT : Int32} (hg : hG τ h) (rm : RM h cur hs) (hT : hsl h 52 2 = some (zi xT)) (eT : xT.toInt = (T : Int)) (ok : (∀ (j : Nat) (i : it4), cur.1.1[j]? = some i → okI i) ∧ (∀ (j : Nat) (i : it4), cur.1.2[j]? = some i → okI i) ∧ (∀ (j : Nat) (i : it4), cur.2.1[j]? = some i → okI i) ∧ ∀ (j : Nat) (i : it4), cur.2.2[j]? = some i → okI i) (cz : cz1 cur) (hw : xw.toInt = 2) : qI 60 194 [some (.inl (some 52)), some (zi xw)] h t (fun y h1 => ∃ τ1, hG τ1 h1 ∧ RM h1 cur hs ∧ frM h h1 ∧ y.toInt = (cur.1.2.length : Int) ∧ ∃ z : Int32, hsl h1 52 0 = some (zi z) ∧ z.toInt = 0) := by
  refine qI_le (d := 31) (by decide) (qI_of ?_)
  have lz := len55 hg rm.1
  obtain ⟨⟨xp0z, hp0z, ep0z⟩, ⟨xc0z, hc0z, ec0z⟩, ip0z, ic0z⟩ := rm.1.1
  obtain ⟨⟨xp1z, hp1z, ep1z⟩, ⟨xc1z, hc1z, ec1z⟩, ip1z, ic1z⟩ := rm.1.2
  obtain ⟨xk, hk, ek⟩ := rm.2.2.1
  refine y_same (i := .aload_n 0) (len := 1) (r := (0, 0, 0, 0)) (pc' := 1) (ls' := [some (.inl (some 52)), some (zi xw)]) (st' := [.inl (some 52)]) (by decide +kernel) (fun k q => by cases q) rfl ?_
  refine y_ic (c := 0) (len := 1) (r := (0, 0, 0, 0)) (by decide +kernel) (by decide) (fun y3349 hy3349 => ?_)
  refine y_put (j := 92) (lo := (-2147483648)) (hi := 2147483647) (len := 3) (r := (12, 0, 0, 1328)) (by decide +kernel) hg (t52 hg) at52 rfl rfl (by decide) rfl (qin_full _).1 (qin_full _).2 rfl (fun h3350 hg3350 hl3350 hs3350 ho3350 => ?_)
  have ho3350 : hO 52 0 h h3350 := ho3350
  have hs3350 : hsl h3350 52 0 = some (zi y3349) := hs3350
  refine y_same (i := .aload_n 0) (len := 1) (r := (0, 0, 0, 0)) (pc' := 6) (ls' := [some (.inl (some 52)), some (zi xw)]) (st' := [.inl (some 52)]) (by decide +kernel) (fun k q => by cases q) rfl ?_
  refine y_same (i := .iload_n 1) (len := 1) (r := (0, 0, 0, 0)) (pc' := 7) (ls' := [some (.inl (some 52)), some (zi xw)]) (st' := [zi xw, .inl (some 52)]) (by decide +kernel) (fun k q => by cases q) rfl ?_
  refine y_ic (c := 0) (len := 1) (r := (0, 0, 0, 0)) (by decide +kernel) (by decide) (fun y3351 hy3351 => ?_)
  refine y_bi (c := 6) (len := 2) (r := (0, 0, 0, 0)) (by decide +kernel) (by decide) (fun y3352 hy3352 => ?_)
  refine y_cI (i := .invokestatic 200) (len := 3) (r := (1, 162, 12, 1486)) (nL := 3) (k := 2) (n := 3) (hs := []) (args := [zi xw, zi y3351, zi y3352]) (rest := [.inl (some 52)]) (l0 := [some (zi xw), some (zi y3351), some (zi y3352)]) (by decide +kernel) (Or.inl ⟨_, rfl⟩) rfl rfl rfl rfl (Nat.le_of_ble_eq_true rfl) rfl rfl (qI_le (by decide) (m_in (d := 0) (by omega) (by omega))) (fun y3353 qy3353 hRy3353 => ?_)
  obtain ⟨rfl, hy3353⟩ := hRy3353
  refine y_iT (c := .ne) (off := 7) (pc' := 20) (len := 3) (r := (0, 0, 0, 0)) (by decide +kernel) (acmpT (c := .ne) (by show ¬ (_ = _); omega)) (by decide +kernel) ?_
  refine y_ic (c := 0) (len := 1) (r := (0, 0, 0, 0)) (by decide +kernel) (by decide) (fun y3354 hy3354 => ?_)
  refine y_ic (c := 1) (len := 1) (r := (0, 0, 0, 0)) (by decide +kernel) (by decide) (fun y3355 hy3355 => ?_)
  refine y_ic (c := 1) (len := 1) (r := (0, 0, 0, 0)) (by decide +kernel) (by decide) (fun y3356 hy3356 => ?_)
  refine y_cI (i := .invokevirtual 204) (len := 3) (r := (0, 161, 12, 1489)) (nL := 4) (k := 2) (n := 4) (hs := []) (args := [.inl (some 52), zi y3354, zi y3355, zi y3356]) (rest := []) (l0 := [some (.inl (some 52)), some (zi y3354), some (zi y3355), some (zi y3356)]) (by decide +kernel) (Or.inr (Or.inl ⟨_, rfl⟩)) rfl rfl rfl rfl (Nat.le_of_ble_eq_true rfl) (z52 hg3350) rfl (qI_le (by decide) (m_bad (d := 0) hg3350 (by omega) hs3350 (by omega))) (fun y3357 qy3357 hRy3357 => ?_)
  obtain ⟨rfl, hy3357⟩ := hRy3357
  refine y_iT (c := .eq) (off := 5) (pc' := 31) (len := 3) (r := (0, 0, 0, 0)) (by decide +kernel) (acmpT (c := .eq) (by show _ = _; omega)) (by decide +kernel) ?_
  refine y_same (i := .iload_n 1) (len := 1) (r := (0, 0, 0, 0)) (pc' := 32) (ls' := [some (.inl (some 52)), some (zi xw)]) (st' := [zi xw]) (by decide +kernel) (fun k q => by cases q) rfl ?_
  refine y_ic (c := 2) (len := 1) (r := (0, 0, 0, 0)) (by decide +kernel) (by decide) (fun y3358 hy3358 => ?_)
  refine y_cT (c := .ge) (off := 14) (pc' := 47) (len := 3) (r := (0, 0, 0, 0)) (by decide +kernel) (acmpT (c := .ge) (by show _ ≤ _; omega)) (by decide +kernel) ?_
  refine y_same (i := .iload_n 1) (len := 1) (r := (0, 0, 0, 0)) (pc' := 48) (ls' := [some (.inl (some 52)), some (zi xw)]) (st' := [zi xw]) (by decide +kernel) (fun k q => by cases q) rfl ?_
  refine y_ic (c := 4) (len := 1) (r := (0, 0, 0, 0)) (by decide +kernel) (by decide) (fun y3359 hy3359 => ?_)
  refine y_cF (c := .ge) (off := 16) (len := 3) (r := (0, 0, 0, 0)) (by decide +kernel) (acmpF (c := .ge) (by show _ < _; omega)) ?_
  refine y_same (i := .aload_n 0) (len := 1) (r := (0, 0, 0, 0)) (pc' := 53) (ls' := [some (.inl (some 52)), some (zi xw)]) (st' := [.inl (some 52)]) (by decide +kernel) (fun k q => by cases q) rfl ?_
  refine y_get (j := 20) (len := 3) (r := (12, 9, 2, 1337)) (by decide +kernel) hg3350 (t52 hg3350) at52 rfl rfl (g_r52 (f := 9) (T2 := 55) hg3350 rfl (by decide)).1 ?_
  refine y_same (i := .iload_n 1) (len := 1) (r := (0, 0, 0, 0)) (pc' := 57) (ls' := [some (.inl (some 52)), some (zi xw)]) (st' := [zi xw, .inl (some 55)]) (by decide +kernel) (fun k q => by cases q) rfl ?_
  refine y_ic (c := 2) (len := 1) (r := (0, 0, 0, 0)) (by decide +kernel) (by decide) (fun y3360 hy3360 => ?_)
  refine y_sub (len := 1) (r := (0, 0, 0, 0)) (by decide +kernel) (by omega) (by omega) (fun y3361 hy3361 => ?_)
  have hv3363 := (ho3350 55 1 (Or.inl (by omega))).trans hc0z
  refine y_cI (i := .invokestatic 155) (len := 3) (r := (1, 167, 12, 1560)) (nL := 2) (k := 1) (n := 2) (hs := []) (args := [.inl (some 55), zi y3361]) (rest := []) (l0 := [some (.inl (some 55)), some (zi y3361)]) (by decide +kernel) (Or.inl ⟨_, rfl⟩) rfl rfl rfl rfl (Nat.le_of_ble_eq_true rfl) rfl rfl (qI_le (by decide) (m_claims (d := 0) (s := 0) hg3350 (by omega) (by omega) hv3363)) (fun y3362 qy3362 hRy3362 => ?_)
  obtain ⟨rfl, rfl⟩ := hRy3362
  refine y_goto (off := 34) (pc' := 96) (len := 3) (r := (0, 0, 0, 0)) (by decide +kernel) (by decide +kernel) ?_
  refine y_rI (len := 1) (r := (0, 0, 0, 0)) (nL := 2) (k := 1) (n9 := 2) (hs := []) (by decide +kernel) rfl rfl ?_
  exact ⟨_, hg3350, RM_up rm (fun k j hC => (ho3350 k j (by omega))), fun k j hC => (ho3350 k j (by omega)), by omega, _, hs3350, by omega⟩
theorem m_told3 {t T : Nat} {τ : List Nat} {h : zh} {cur : bsT} {hs : List bsT} {xw xT : Int32} (hg : hG τ h) (rm : RM h cur hs) (hT : hsl h 52 2 = some (zi xT)) (eT : xT.toInt = (T : Int)) (ok : (∀ (j : Nat) (i : it4), cur.1.1[j]? = some i → okI i) ∧ (∀ (j : Nat) (i : it4), cur.1.2[j]? = some i → okI i) ∧ (∀ (j : Nat) (i : it4), cur.2.1[j]? = some i → okI i) ∧ ∀ (j : Nat) (i : it4), cur.2.2[j]? = some i → okI i) (cz : cz1 cur) (hw : xw.toInt = 3) : qI 60 194 [some (.inl (some 52)), some (zi xw)] h t (fun y h1 => ∃ τ1, hG τ1 h1 ∧ RM h1 cur hs ∧ frM h h1 ∧ y.toInt = (cur.2.2.length : Int) ∧ ∃ z : Int32, hsl h1 52 0 = some (zi z) ∧ z.toInt = 0) := by
  refine qI_le (d := 31) (by decide) (qI_of ?_)
  have lz := len55 hg rm.1
  obtain ⟨⟨xp0z, hp0z, ep0z⟩, ⟨xc0z, hc0z, ec0z⟩, ip0z, ic0z⟩ := rm.1.1
  obtain ⟨⟨xp1z, hp1z, ep1z⟩, ⟨xc1z, hc1z, ec1z⟩, ip1z, ic1z⟩ := rm.1.2
  obtain ⟨xk, hk, ek⟩ := rm.2.2.1
  refine y_same (i := .aload_n 0) (len := 1) (r := (0, 0, 0, 0)) (pc' := 1) (ls' := [some (.inl (some 52)), some (zi xw)]) (st' := [.inl (some 52)]) (by decide +kernel) (fun k q => by cases q) rfl ?_
  refine y_ic (c := 0) (len := 1) (r := (0, 0, 0, 0)) (by decide +kernel) (by decide) (fun y3364 hy3364 => ?_)
  refine y_put (j := 92) (lo := (-2147483648)) (hi := 2147483647) (len := 3) (r := (12, 0, 0, 1328)) (by decide +kernel) hg (t52 hg) at52 rfl rfl (by decide) rfl (qin_full _).1 (qin_full _).2 rfl (fun h3365 hg3365 hl3365 hs3365 ho3365 => ?_)
  have ho3365 : hO 52 0 h h3365 := ho3365
  have hs3365 : hsl h3365 52 0 = some (zi y3364) := hs3365
  refine y_same (i := .aload_n 0) (len := 1) (r := (0, 0, 0, 0)) (pc' := 6) (ls' := [some (.inl (some 52)), some (zi xw)]) (st' := [.inl (some 52)]) (by decide +kernel) (fun k q => by cases q) rfl ?_
  refine y_same (i := .iload_n 1) (len := 1) (r := (0, 0, 0, 0)) (pc' := 7) (ls' := [some (.inl (some 52)), some (zi xw)]) (st' := [zi xw, .inl (some 52)]) (by decide +kernel) (fun k q => by cases q) rfl ?_
  refine y_ic (c := 0) (len := 1) (r := (0, 0, 0, 0)) (by decide +kernel) (by decide) (fun y3366 hy3366 => ?_)
  refine y_bi (c := 6) (len := 2) (r := (0, 0, 0, 0)) (by decide +kernel) (by decide) (fun y3367 hy3367 => ?_)
  refine y_cI (i := .invokestatic 200) (len := 3) (r := (1, 162, 12, 1486)) (nL := 3) (k := 2) (n := 3) (hs := []) (args := [zi xw, zi y3366, zi y3367]) (rest := [.inl (some 52)]) (l0 := [some (zi xw), some (zi y3366), some (zi y3367)]) (by decide +kernel) (Or.inl ⟨_, rfl⟩) rfl rfl rfl rfl (Nat.le_of_ble_eq_true rfl) rfl rfl (qI_le (by decide) (m_in (d := 0) (by omega) (by omega))) (fun y3368 qy3368 hRy3368 => ?_)
  obtain ⟨rfl, hy3368⟩ := hRy3368
  refine y_iT (c := .ne) (off := 7) (pc' := 20) (len := 3) (r := (0, 0, 0, 0)) (by decide +kernel) (acmpT (c := .ne) (by show ¬ (_ = _); omega)) (by decide +kernel) ?_
  refine y_ic (c := 0) (len := 1) (r := (0, 0, 0, 0)) (by decide +kernel) (by decide) (fun y3369 hy3369 => ?_)
  refine y_ic (c := 1) (len := 1) (r := (0, 0, 0, 0)) (by decide +kernel) (by decide) (fun y3370 hy3370 => ?_)
  refine y_ic (c := 1) (len := 1) (r := (0, 0, 0, 0)) (by decide +kernel) (by decide) (fun y3371 hy3371 => ?_)
  refine y_cI (i := .invokevirtual 204) (len := 3) (r := (0, 161, 12, 1489)) (nL := 4) (k := 2) (n := 4) (hs := []) (args := [.inl (some 52), zi y3369, zi y3370, zi y3371]) (rest := []) (l0 := [some (.inl (some 52)), some (zi y3369), some (zi y3370), some (zi y3371)]) (by decide +kernel) (Or.inr (Or.inl ⟨_, rfl⟩)) rfl rfl rfl rfl (Nat.le_of_ble_eq_true rfl) (z52 hg3365) rfl (qI_le (by decide) (m_bad (d := 0) hg3365 (by omega) hs3365 (by omega))) (fun y3372 qy3372 hRy3372 => ?_)
  obtain ⟨rfl, hy3372⟩ := hRy3372
  refine y_iT (c := .eq) (off := 5) (pc' := 31) (len := 3) (r := (0, 0, 0, 0)) (by decide +kernel) (acmpT (c := .eq) (by show _ = _; omega)) (by decide +kernel) ?_
  refine y_same (i := .iload_n 1) (len := 1) (r := (0, 0, 0, 0)) (pc' := 32) (ls' := [some (.inl (some 52)), some (zi xw)]) (st' := [zi xw]) (by decide +kernel) (fun k q => by cases q) rfl ?_
  refine y_ic (c := 2) (len := 1) (r := (0, 0, 0, 0)) (by decide +kernel) (by decide) (fun y3373 hy3373 => ?_)
  refine y_cT (c := .ge) (off := 14) (pc' := 47) (len := 3) (r := (0, 0, 0, 0)) (by decide +kernel) (acmpT (c := .ge) (by show _ ≤ _; omega)) (by decide +kernel) ?_
  refine y_same (i := .iload_n 1) (len := 1) (r := (0, 0, 0, 0)) (pc' := 48) (ls' := [some (.inl (some 52)), some (zi xw)]) (st' := [zi xw]) (by decide +kernel) (fun k q => by cases q) rfl ?_
  refine y_ic (c := 4) (len := 1) (r := (0, 0, 0, 0)) (by decide +kernel) (by decide) (fun y3374 hy3374 => ?_)
  refine y_cF (c := .ge) (off := 16) (len := 3) (r := (0, 0, 0, 0)) (by decide +kernel) (acmpF (c := .ge) (by show _ < _; omega)) ?_
  refine y_same (i := .aload_n 0) (len := 1) (r := (0, 0, 0, 0)) (pc' := 53) (ls' := [some (.inl (some 52)), some (zi xw)]) (st' := [.inl (some 52)]) (by decide +kernel) (fun k q => by cases q) rfl ?_
  refine y_get (j := 20) (len := 3) (r := (12, 9, 2, 1337)) (by decide +kernel) hg3365 (t52 hg3365) at52 rfl rfl (g_r52 (f := 9) (T2 := 55) hg3365 rfl (by decide)).1 ?_
  refine y_same (i := .iload_n 1) (len := 1) (r := (0, 0, 0, 0)) (pc' := 57) (ls' := [some (.inl (some 52)), some (zi xw)]) (st' := [zi xw, .inl (some 55)]) (by decide +kernel) (fun k q => by cases q) rfl ?_
  refine y_ic (c := 2) (len := 1) (r := (0, 0, 0, 0)) (by decide +kernel) (by decide) (fun y3375 hy3375 => ?_)
  refine y_sub (len := 1) (r := (0, 0, 0, 0)) (by decide +kernel) (by omega) (by omega) (fun y3376 hy3376 => ?_)
  have hv3378 := (ho3365 55 47 (Or.inl (by omega))).trans hc1z
  refine y_cI (i := .invokestatic 155) (len := 3) (r := (1, 167, 12, 1560)) (nL := 2) (k := 1) (n := 2) (hs := []) (args := [.inl (some 55), zi y3376]) (rest := []) (l0 := [some (.inl (some 55)), some (zi y3376)]) (by decide +kernel) (Or.inl ⟨_, rfl⟩) rfl rfl rfl rfl (Nat.le_of_ble_eq_true rfl) rfl rfl (qI_le (by decide) (m_claims (d := 0) (s := 1) hg3365 (by omega) (by omega) hv3378)) (fun y3377 qy3377 hRy3377 => ?_)
  obtain ⟨rfl, rfl⟩ := hRy3377
  refine y_goto (off := 34) (pc' := 96) (len := 3) (r := (0, 0, 0, 0)) (by decide +kernel) (by decide +kernel) ?_
  refine y_rI (len := 1) (r := (0, 0, 0, 0)) (nL := 2) (k := 1) (n9 := 2) (hs := []) (by decide +kernel) rfl rfl ?_
  exact ⟨_, hg3365, RM_up rm (fun k j hC => (ho3365 k j (by omega))), fun k j hC => (ho3365 k j (by omega)), by omega, _, hs3365, by omega⟩
theorem m_told4 {t T : Nat} {τ : List Nat} {h : zh} {cur : bsT} {hs : List bsT} {xw xT : Int32} (hg : hG τ h) (rm : RM h cur hs) (hT : hsl h 52 2 = some (zi xT)) (eT : xT.toInt = (T : Int)) (ok : (∀ (j : Nat) (i : it4), cur.1.1[j]? = some i → okI i) ∧ (∀ (j : Nat) (i : it4), cur.1.2[j]? = some i → okI i) ∧ (∀ (j : Nat) (i : it4), cur.2.1[j]? = some i → okI i) ∧ ∀ (j : Nat) (i : it4), cur.2.2[j]? = some i → okI i) (cz : cz1 cur) (hw : xw.toInt = 4) : qI 60 194 [some (.inl (some 52)), some (zi xw)] h t (fun y h1 => ∃ τ1, hG τ1 h1 ∧ RM h1 cur hs ∧ frM h h1 ∧ y.toInt = (pop6 (letN cur) : Int) ∧ ∃ z : Int32, hsl h1 52 0 = some (zi z) ∧ z.toInt = 0) := by
  refine qI_le (d := 31) (by decide) (qI_of ?_)
  have lz := len55 hg rm.1
  obtain ⟨⟨xp0z, hp0z, ep0z⟩, ⟨xc0z, hc0z, ec0z⟩, ip0z, ic0z⟩ := rm.1.1
  obtain ⟨⟨xp1z, hp1z, ep1z⟩, ⟨xc1z, hc1z, ec1z⟩, ip1z, ic1z⟩ := rm.1.2
  obtain ⟨xk, hk, ek⟩ := rm.2.2.1
  refine y_same (i := .aload_n 0) (len := 1) (r := (0, 0, 0, 0)) (pc' := 1) (ls' := [some (.inl (some 52)), some (zi xw)]) (st' := [.inl (some 52)]) (by decide +kernel) (fun k q => by cases q) rfl ?_
  refine y_ic (c := 0) (len := 1) (r := (0, 0, 0, 0)) (by decide +kernel) (by decide) (fun y3379 hy3379 => ?_)
  refine y_put (j := 92) (lo := (-2147483648)) (hi := 2147483647) (len := 3) (r := (12, 0, 0, 1328)) (by decide +kernel) hg (t52 hg) at52 rfl rfl (by decide) rfl (qin_full _).1 (qin_full _).2 rfl (fun h3380 hg3380 hl3380 hs3380 ho3380 => ?_)
  have ho3380 : hO 52 0 h h3380 := ho3380
  have hs3380 : hsl h3380 52 0 = some (zi y3379) := hs3380
  refine y_same (i := .aload_n 0) (len := 1) (r := (0, 0, 0, 0)) (pc' := 6) (ls' := [some (.inl (some 52)), some (zi xw)]) (st' := [.inl (some 52)]) (by decide +kernel) (fun k q => by cases q) rfl ?_
  refine y_same (i := .iload_n 1) (len := 1) (r := (0, 0, 0, 0)) (pc' := 7) (ls' := [some (.inl (some 52)), some (zi xw)]) (st' := [zi xw, .inl (some 52)]) (by decide +kernel) (fun k q => by cases q) rfl ?_
  refine y_ic (c := 0) (len := 1) (r := (0, 0, 0, 0)) (by decide +kernel) (by decide) (fun y3381 hy3381 => ?_)
  refine y_bi (c := 6) (len := 2) (r := (0, 0, 0, 0)) (by decide +kernel) (by decide) (fun y3382 hy3382 => ?_)
  refine y_cI (i := .invokestatic 200) (len := 3) (r := (1, 162, 12, 1486)) (nL := 3) (k := 2) (n := 3) (hs := []) (args := [zi xw, zi y3381, zi y3382]) (rest := [.inl (some 52)]) (l0 := [some (zi xw), some (zi y3381), some (zi y3382)]) (by decide +kernel) (Or.inl ⟨_, rfl⟩) rfl rfl rfl rfl (Nat.le_of_ble_eq_true rfl) rfl rfl (qI_le (by decide) (m_in (d := 0) (by omega) (by omega))) (fun y3383 qy3383 hRy3383 => ?_)
  obtain ⟨rfl, hy3383⟩ := hRy3383
  refine y_iT (c := .ne) (off := 7) (pc' := 20) (len := 3) (r := (0, 0, 0, 0)) (by decide +kernel) (acmpT (c := .ne) (by show ¬ (_ = _); omega)) (by decide +kernel) ?_
  refine y_ic (c := 0) (len := 1) (r := (0, 0, 0, 0)) (by decide +kernel) (by decide) (fun y3384 hy3384 => ?_)
  refine y_ic (c := 1) (len := 1) (r := (0, 0, 0, 0)) (by decide +kernel) (by decide) (fun y3385 hy3385 => ?_)
  refine y_ic (c := 1) (len := 1) (r := (0, 0, 0, 0)) (by decide +kernel) (by decide) (fun y3386 hy3386 => ?_)
  refine y_cI (i := .invokevirtual 204) (len := 3) (r := (0, 161, 12, 1489)) (nL := 4) (k := 2) (n := 4) (hs := []) (args := [.inl (some 52), zi y3384, zi y3385, zi y3386]) (rest := []) (l0 := [some (.inl (some 52)), some (zi y3384), some (zi y3385), some (zi y3386)]) (by decide +kernel) (Or.inr (Or.inl ⟨_, rfl⟩)) rfl rfl rfl rfl (Nat.le_of_ble_eq_true rfl) (z52 hg3380) rfl (qI_le (by decide) (m_bad (d := 0) hg3380 (by omega) hs3380 (by omega))) (fun y3387 qy3387 hRy3387 => ?_)
  obtain ⟨rfl, hy3387⟩ := hRy3387
  refine y_iT (c := .eq) (off := 5) (pc' := 31) (len := 3) (r := (0, 0, 0, 0)) (by decide +kernel) (acmpT (c := .eq) (by show _ = _; omega)) (by decide +kernel) ?_
  refine y_same (i := .iload_n 1) (len := 1) (r := (0, 0, 0, 0)) (pc' := 32) (ls' := [some (.inl (some 52)), some (zi xw)]) (st' := [zi xw]) (by decide +kernel) (fun k q => by cases q) rfl ?_
  refine y_ic (c := 2) (len := 1) (r := (0, 0, 0, 0)) (by decide +kernel) (by decide) (fun y3388 hy3388 => ?_)
  refine y_cT (c := .ge) (off := 14) (pc' := 47) (len := 3) (r := (0, 0, 0, 0)) (by decide +kernel) (acmpT (c := .ge) (by show _ ≤ _; omega)) (by decide +kernel) ?_
  refine y_same (i := .iload_n 1) (len := 1) (r := (0, 0, 0, 0)) (pc' := 48) (ls' := [some (.inl (some 52)), some (zi xw)]) (st' := [zi xw]) (by decide +kernel) (fun k q => by cases q) rfl ?_
  refine y_ic (c := 4) (len := 1) (r := (0, 0, 0, 0)) (by decide +kernel) (by decide) (fun y3389 hy3389 => ?_)
  refine y_cT (c := .ge) (off := 16) (pc' := 65) (len := 3) (r := (0, 0, 0, 0)) (by decide +kernel) (acmpT (c := .ge) (by show _ ≤ _; omega)) (by decide +kernel) ?_
  refine y_same (i := .iload_n 1) (len := 1) (r := (0, 0, 0, 0)) (pc' := 66) (ls' := [some (.inl (some 52)), some (zi xw)]) (st' := [zi xw]) (by decide +kernel) (fun k q => by cases q) rfl ?_
  refine y_ic (c := 4) (len := 1) (r := (0, 0, 0, 0)) (by decide +kernel) (by decide) (fun y3390 hy3390 => ?_)
  refine y_cF (c := .ne) (off := 13) (len := 3) (r := (0, 0, 0, 0)) (by decide +kernel) (acmpF (c := .ne) (by show _ = _; omega)) ?_
  refine y_same (i := .aload_n 0) (len := 1) (r := (0, 0, 0, 0)) (pc' := 71) (ls' := [some (.inl (some 52)), some (zi xw)]) (st' := [.inl (some 52)]) (by decide +kernel) (fun k q => by cases q) rfl ?_
  have rm9 : RM h3380 cur hs := RM_up rm (fun k j hC => (ho3380 k j (by omega)))
  refine y_cI (i := .invokevirtual 239) (len := 3) (r := (0, 192, 12, 1609)) (nL := 5) (k := 1) (n := 1) (hs := []) (args := [.inl (some 52)]) (rest := []) (l0 := [some (.inl (some 52)), none, none, none, none]) (by decide +kernel) (Or.inr (Or.inl ⟨_, rfl⟩)) rfl rfl rfl rfl (Nat.le_of_ble_eq_true rfl) (z52 hg3380) rfl (qI_le (by decide) (m_vars hg3380 rm9 ok cz)) (fun y3391 qy3391 hRy3391 => ?_)
  obtain ⟨rfl, ey3391⟩ := hRy3391
  refine y_cI (i := .invokestatic 242) (len := 3) (r := (1, 193, 12, 1613)) (nL := 3) (k := 1) (n := 1) (hs := []) (args := [zi y3391]) (rest := []) (l0 := [some (zi y3391), none, none]) (by decide +kernel) (Or.inl ⟨_, rfl⟩) rfl rfl rfl rfl (Nat.le_of_ble_eq_true rfl) rfl rfl (qI_le (by decide) (m_bits (d := 0) ey3391 let_64)) (fun y3392 qy3392 hRy3392 => ?_)
  obtain ⟨rfl, ey3392⟩ := hRy3392
  refine y_goto (off := 19) (pc' := 96) (len := 3) (r := (0, 0, 0, 0)) (by decide +kernel) (by decide +kernel) ?_
  refine y_rI (len := 1) (r := (0, 0, 0, 0)) (nL := 2) (k := 1) (n9 := 2) (hs := []) (by decide +kernel) rfl rfl ?_
  exact ⟨_, hg3380, RM_up rm (fun k j hC => (ho3380 k j (by omega))), fun k j hC => (ho3380 k j (by omega)), by omega, _, hs3380, by omega⟩
theorem m_told5 {t T : Nat} {τ : List Nat} {h : zh} {cur : bsT} {hs : List bsT} {xw xT : Int32} (hg : hG τ h) (rm : RM h cur hs) (hT : hsl h 52 2 = some (zi xT)) (eT : xT.toInt = (T : Int)) (ok : (∀ (j : Nat) (i : it4), cur.1.1[j]? = some i → okI i) ∧ (∀ (j : Nat) (i : it4), cur.1.2[j]? = some i → okI i) ∧ (∀ (j : Nat) (i : it4), cur.2.1[j]? = some i → okI i) ∧ ∀ (j : Nat) (i : it4), cur.2.2[j]? = some i → okI i) (cz : cz1 cur) (hw : xw.toInt = 5) : qI 60 194 [some (.inl (some 52)), some (zi xw)] h t (fun y h1 => ∃ τ1, hG τ1 h1 ∧ RM h1 cur hs ∧ frM h h1 ∧ y.toInt = (T : Int) ∧ ∃ z : Int32, hsl h1 52 0 = some (zi z) ∧ z.toInt = 0) := by
  refine qI_le (d := 31) (by decide) (qI_of ?_)
  have lz := len55 hg rm.1
  obtain ⟨⟨xp0z, hp0z, ep0z⟩, ⟨xc0z, hc0z, ec0z⟩, ip0z, ic0z⟩ := rm.1.1
  obtain ⟨⟨xp1z, hp1z, ep1z⟩, ⟨xc1z, hc1z, ec1z⟩, ip1z, ic1z⟩ := rm.1.2
  obtain ⟨xk, hk, ek⟩ := rm.2.2.1
  refine y_same (i := .aload_n 0) (len := 1) (r := (0, 0, 0, 0)) (pc' := 1) (ls' := [some (.inl (some 52)), some (zi xw)]) (st' := [.inl (some 52)]) (by decide +kernel) (fun k q => by cases q) rfl ?_
  refine y_ic (c := 0) (len := 1) (r := (0, 0, 0, 0)) (by decide +kernel) (by decide) (fun y3393 hy3393 => ?_)
  refine y_put (j := 92) (lo := (-2147483648)) (hi := 2147483647) (len := 3) (r := (12, 0, 0, 1328)) (by decide +kernel) hg (t52 hg) at52 rfl rfl (by decide) rfl (qin_full _).1 (qin_full _).2 rfl (fun h3394 hg3394 hl3394 hs3394 ho3394 => ?_)
  have ho3394 : hO 52 0 h h3394 := ho3394
  have hs3394 : hsl h3394 52 0 = some (zi y3393) := hs3394
  refine y_same (i := .aload_n 0) (len := 1) (r := (0, 0, 0, 0)) (pc' := 6) (ls' := [some (.inl (some 52)), some (zi xw)]) (st' := [.inl (some 52)]) (by decide +kernel) (fun k q => by cases q) rfl ?_
  refine y_same (i := .iload_n 1) (len := 1) (r := (0, 0, 0, 0)) (pc' := 7) (ls' := [some (.inl (some 52)), some (zi xw)]) (st' := [zi xw, .inl (some 52)]) (by decide +kernel) (fun k q => by cases q) rfl ?_
  refine y_ic (c := 0) (len := 1) (r := (0, 0, 0, 0)) (by decide +kernel) (by decide) (fun y3395 hy3395 => ?_)
  refine y_bi (c := 6) (len := 2) (r := (0, 0, 0, 0)) (by decide +kernel) (by decide) (fun y3396 hy3396 => ?_)
  refine y_cI (i := .invokestatic 200) (len := 3) (r := (1, 162, 12, 1486)) (nL := 3) (k := 2) (n := 3) (hs := []) (args := [zi xw, zi y3395, zi y3396]) (rest := [.inl (some 52)]) (l0 := [some (zi xw), some (zi y3395), some (zi y3396)]) (by decide +kernel) (Or.inl ⟨_, rfl⟩) rfl rfl rfl rfl (Nat.le_of_ble_eq_true rfl) rfl rfl (qI_le (by decide) (m_in (d := 0) (by omega) (by omega))) (fun y3397 qy3397 hRy3397 => ?_)
  obtain ⟨rfl, hy3397⟩ := hRy3397
  refine y_iT (c := .ne) (off := 7) (pc' := 20) (len := 3) (r := (0, 0, 0, 0)) (by decide +kernel) (acmpT (c := .ne) (by show ¬ (_ = _); omega)) (by decide +kernel) ?_
  refine y_ic (c := 0) (len := 1) (r := (0, 0, 0, 0)) (by decide +kernel) (by decide) (fun y3398 hy3398 => ?_)
  refine y_ic (c := 1) (len := 1) (r := (0, 0, 0, 0)) (by decide +kernel) (by decide) (fun y3399 hy3399 => ?_)
  refine y_ic (c := 1) (len := 1) (r := (0, 0, 0, 0)) (by decide +kernel) (by decide) (fun y3400 hy3400 => ?_)
  refine y_cI (i := .invokevirtual 204) (len := 3) (r := (0, 161, 12, 1489)) (nL := 4) (k := 2) (n := 4) (hs := []) (args := [.inl (some 52), zi y3398, zi y3399, zi y3400]) (rest := []) (l0 := [some (.inl (some 52)), some (zi y3398), some (zi y3399), some (zi y3400)]) (by decide +kernel) (Or.inr (Or.inl ⟨_, rfl⟩)) rfl rfl rfl rfl (Nat.le_of_ble_eq_true rfl) (z52 hg3394) rfl (qI_le (by decide) (m_bad (d := 0) hg3394 (by omega) hs3394 (by omega))) (fun y3401 qy3401 hRy3401 => ?_)
  obtain ⟨rfl, hy3401⟩ := hRy3401
  refine y_iT (c := .eq) (off := 5) (pc' := 31) (len := 3) (r := (0, 0, 0, 0)) (by decide +kernel) (acmpT (c := .eq) (by show _ = _; omega)) (by decide +kernel) ?_
  refine y_same (i := .iload_n 1) (len := 1) (r := (0, 0, 0, 0)) (pc' := 32) (ls' := [some (.inl (some 52)), some (zi xw)]) (st' := [zi xw]) (by decide +kernel) (fun k q => by cases q) rfl ?_
  refine y_ic (c := 2) (len := 1) (r := (0, 0, 0, 0)) (by decide +kernel) (by decide) (fun y3402 hy3402 => ?_)
  refine y_cT (c := .ge) (off := 14) (pc' := 47) (len := 3) (r := (0, 0, 0, 0)) (by decide +kernel) (acmpT (c := .ge) (by show _ ≤ _; omega)) (by decide +kernel) ?_
  refine y_same (i := .iload_n 1) (len := 1) (r := (0, 0, 0, 0)) (pc' := 48) (ls' := [some (.inl (some 52)), some (zi xw)]) (st' := [zi xw]) (by decide +kernel) (fun k q => by cases q) rfl ?_
  refine y_ic (c := 4) (len := 1) (r := (0, 0, 0, 0)) (by decide +kernel) (by decide) (fun y3403 hy3403 => ?_)
  refine y_cT (c := .ge) (off := 16) (pc' := 65) (len := 3) (r := (0, 0, 0, 0)) (by decide +kernel) (acmpT (c := .ge) (by show _ ≤ _; omega)) (by decide +kernel) ?_
  refine y_same (i := .iload_n 1) (len := 1) (r := (0, 0, 0, 0)) (pc' := 66) (ls' := [some (.inl (some 52)), some (zi xw)]) (st' := [zi xw]) (by decide +kernel) (fun k q => by cases q) rfl ?_
  refine y_ic (c := 4) (len := 1) (r := (0, 0, 0, 0)) (by decide +kernel) (by decide) (fun y3404 hy3404 => ?_)
  refine y_cT (c := .ne) (off := 13) (pc' := 80) (len := 3) (r := (0, 0, 0, 0)) (by decide +kernel) (acmpT (c := .ne) (by show ¬ (_ = _); omega)) (by decide +kernel) ?_
  refine y_same (i := .iload_n 1) (len := 1) (r := (0, 0, 0, 0)) (pc' := 81) (ls' := [some (.inl (some 52)), some (zi xw)]) (st' := [zi xw]) (by decide +kernel) (fun k q => by cases q) rfl ?_
  refine y_ic (c := 5) (len := 1) (r := (0, 0, 0, 0)) (by decide +kernel) (by decide) (fun y3405 hy3405 => ?_)
  refine y_cF (c := .ne) (off := 10) (len := 3) (r := (0, 0, 0, 0)) (by decide +kernel) (acmpF (c := .ne) (by show _ = _; omega)) ?_
  refine y_same (i := .aload_n 0) (len := 1) (r := (0, 0, 0, 0)) (pc' := 86) (ls' := [some (.inl (some 52)), some (zi xw)]) (st' := [.inl (some 52)]) (by decide +kernel) (fun k q => by cases q) rfl ?_
  have hv3406 := (ho3394 52 2 (Or.inr (by omega))).trans hT
  refine y_get (j := 95) (len := 3) (r := (12, 2, 0, 1330)) (by decide +kernel) hg3394 (t52 hg3394) at52 rfl rfl hv3406 ?_
  refine y_goto (off := 7) (pc' := 96) (len := 3) (r := (0, 0, 0, 0)) (by decide +kernel) (by decide +kernel) ?_
  refine y_rI (len := 1) (r := (0, 0, 0, 0)) (nL := 2) (k := 1) (n9 := 2) (hs := []) (by decide +kernel) rfl rfl ?_
  exact ⟨_, hg3394, RM_up rm (fun k j hC => (ho3394 k j (by omega))), fun k j hC => (ho3394 k j (by omega)), by omega, _, hs3394, by omega⟩
theorem m_told6 {t T : Nat} {τ : List Nat} {h : zh} {cur : bsT} {hs : List bsT} {xw xT : Int32} (hg : hG τ h) (rm : RM h cur hs) (hT : hsl h 52 2 = some (zi xT)) (eT : xT.toInt = (T : Int)) (ok : (∀ (j : Nat) (i : it4), cur.1.1[j]? = some i → okI i) ∧ (∀ (j : Nat) (i : it4), cur.1.2[j]? = some i → okI i) ∧ (∀ (j : Nat) (i : it4), cur.2.1[j]? = some i → okI i) ∧ ∀ (j : Nat) (i : it4), cur.2.2[j]? = some i → okI i) (cz : cz1 cur) (hw : xw.toInt = 6) : qI 60 194 [some (.inl (some 52)), some (zi xw)] h t (fun y h1 => ∃ τ1, hG τ1 h1 ∧ RM h1 cur hs ∧ frM h h1 ∧ y.toInt = (hs.length : Int) ∧ ∃ z : Int32, hsl h1 52 0 = some (zi z) ∧ z.toInt = 0) := by
  refine qI_le (d := 31) (by decide) (qI_of ?_)
  have lz := len55 hg rm.1
  obtain ⟨⟨xp0z, hp0z, ep0z⟩, ⟨xc0z, hc0z, ec0z⟩, ip0z, ic0z⟩ := rm.1.1
  obtain ⟨⟨xp1z, hp1z, ep1z⟩, ⟨xc1z, hc1z, ec1z⟩, ip1z, ic1z⟩ := rm.1.2
  obtain ⟨xk, hk, ek⟩ := rm.2.2.1
  refine y_same (i := .aload_n 0) (len := 1) (r := (0, 0, 0, 0)) (pc' := 1) (ls' := [some (.inl (some 52)), some (zi xw)]) (st' := [.inl (some 52)]) (by decide +kernel) (fun k q => by cases q) rfl ?_
  refine y_ic (c := 0) (len := 1) (r := (0, 0, 0, 0)) (by decide +kernel) (by decide) (fun y3407 hy3407 => ?_)
  refine y_put (j := 92) (lo := (-2147483648)) (hi := 2147483647) (len := 3) (r := (12, 0, 0, 1328)) (by decide +kernel) hg (t52 hg) at52 rfl rfl (by decide) rfl (qin_full _).1 (qin_full _).2 rfl (fun h3408 hg3408 hl3408 hs3408 ho3408 => ?_)
  have ho3408 : hO 52 0 h h3408 := ho3408
  have hs3408 : hsl h3408 52 0 = some (zi y3407) := hs3408
  refine y_same (i := .aload_n 0) (len := 1) (r := (0, 0, 0, 0)) (pc' := 6) (ls' := [some (.inl (some 52)), some (zi xw)]) (st' := [.inl (some 52)]) (by decide +kernel) (fun k q => by cases q) rfl ?_
  refine y_same (i := .iload_n 1) (len := 1) (r := (0, 0, 0, 0)) (pc' := 7) (ls' := [some (.inl (some 52)), some (zi xw)]) (st' := [zi xw, .inl (some 52)]) (by decide +kernel) (fun k q => by cases q) rfl ?_
  refine y_ic (c := 0) (len := 1) (r := (0, 0, 0, 0)) (by decide +kernel) (by decide) (fun y3409 hy3409 => ?_)
  refine y_bi (c := 6) (len := 2) (r := (0, 0, 0, 0)) (by decide +kernel) (by decide) (fun y3410 hy3410 => ?_)
  refine y_cI (i := .invokestatic 200) (len := 3) (r := (1, 162, 12, 1486)) (nL := 3) (k := 2) (n := 3) (hs := []) (args := [zi xw, zi y3409, zi y3410]) (rest := [.inl (some 52)]) (l0 := [some (zi xw), some (zi y3409), some (zi y3410)]) (by decide +kernel) (Or.inl ⟨_, rfl⟩) rfl rfl rfl rfl (Nat.le_of_ble_eq_true rfl) rfl rfl (qI_le (by decide) (m_in (d := 0) (by omega) (by omega))) (fun y3411 qy3411 hRy3411 => ?_)
  obtain ⟨rfl, hy3411⟩ := hRy3411
  refine y_iT (c := .ne) (off := 7) (pc' := 20) (len := 3) (r := (0, 0, 0, 0)) (by decide +kernel) (acmpT (c := .ne) (by show ¬ (_ = _); omega)) (by decide +kernel) ?_
  refine y_ic (c := 0) (len := 1) (r := (0, 0, 0, 0)) (by decide +kernel) (by decide) (fun y3412 hy3412 => ?_)
  refine y_ic (c := 1) (len := 1) (r := (0, 0, 0, 0)) (by decide +kernel) (by decide) (fun y3413 hy3413 => ?_)
  refine y_ic (c := 1) (len := 1) (r := (0, 0, 0, 0)) (by decide +kernel) (by decide) (fun y3414 hy3414 => ?_)
  refine y_cI (i := .invokevirtual 204) (len := 3) (r := (0, 161, 12, 1489)) (nL := 4) (k := 2) (n := 4) (hs := []) (args := [.inl (some 52), zi y3412, zi y3413, zi y3414]) (rest := []) (l0 := [some (.inl (some 52)), some (zi y3412), some (zi y3413), some (zi y3414)]) (by decide +kernel) (Or.inr (Or.inl ⟨_, rfl⟩)) rfl rfl rfl rfl (Nat.le_of_ble_eq_true rfl) (z52 hg3408) rfl (qI_le (by decide) (m_bad (d := 0) hg3408 (by omega) hs3408 (by omega))) (fun y3415 qy3415 hRy3415 => ?_)
  obtain ⟨rfl, hy3415⟩ := hRy3415
  refine y_iT (c := .eq) (off := 5) (pc' := 31) (len := 3) (r := (0, 0, 0, 0)) (by decide +kernel) (acmpT (c := .eq) (by show _ = _; omega)) (by decide +kernel) ?_
  refine y_same (i := .iload_n 1) (len := 1) (r := (0, 0, 0, 0)) (pc' := 32) (ls' := [some (.inl (some 52)), some (zi xw)]) (st' := [zi xw]) (by decide +kernel) (fun k q => by cases q) rfl ?_
  refine y_ic (c := 2) (len := 1) (r := (0, 0, 0, 0)) (by decide +kernel) (by decide) (fun y3416 hy3416 => ?_)
  refine y_cT (c := .ge) (off := 14) (pc' := 47) (len := 3) (r := (0, 0, 0, 0)) (by decide +kernel) (acmpT (c := .ge) (by show _ ≤ _; omega)) (by decide +kernel) ?_
  refine y_same (i := .iload_n 1) (len := 1) (r := (0, 0, 0, 0)) (pc' := 48) (ls' := [some (.inl (some 52)), some (zi xw)]) (st' := [zi xw]) (by decide +kernel) (fun k q => by cases q) rfl ?_
  refine y_ic (c := 4) (len := 1) (r := (0, 0, 0, 0)) (by decide +kernel) (by decide) (fun y3417 hy3417 => ?_)
  refine y_cT (c := .ge) (off := 16) (pc' := 65) (len := 3) (r := (0, 0, 0, 0)) (by decide +kernel) (acmpT (c := .ge) (by show _ ≤ _; omega)) (by decide +kernel) ?_
  refine y_same (i := .iload_n 1) (len := 1) (r := (0, 0, 0, 0)) (pc' := 66) (ls' := [some (.inl (some 52)), some (zi xw)]) (st' := [zi xw]) (by decide +kernel) (fun k q => by cases q) rfl ?_
  refine y_ic (c := 4) (len := 1) (r := (0, 0, 0, 0)) (by decide +kernel) (by decide) (fun y3418 hy3418 => ?_)
  refine y_cT (c := .ne) (off := 13) (pc' := 80) (len := 3) (r := (0, 0, 0, 0)) (by decide +kernel) (acmpT (c := .ne) (by show ¬ (_ = _); omega)) (by decide +kernel) ?_
  refine y_same (i := .iload_n 1) (len := 1) (r := (0, 0, 0, 0)) (pc' := 81) (ls' := [some (.inl (some 52)), some (zi xw)]) (st' := [zi xw]) (by decide +kernel) (fun k q => by cases q) rfl ?_
  refine y_ic (c := 5) (len := 1) (r := (0, 0, 0, 0)) (by decide +kernel) (by decide) (fun y3419 hy3419 => ?_)
  refine y_cT (c := .ne) (off := 10) (pc' := 92) (len := 3) (r := (0, 0, 0, 0)) (by decide +kernel) (acmpT (c := .ne) (by show ¬ (_ = _); omega)) (by decide +kernel) ?_
  refine y_same (i := .aload_n 0) (len := 1) (r := (0, 0, 0, 0)) (pc' := 93) (ls' := [some (.inl (some 52)), some (zi xw)]) (st' := [.inl (some 52)]) (by decide +kernel) (fun k q => by cases q) rfl ?_
  have hv3420 := (ho3408 52 12 (Or.inr (by omega))).trans hk
  refine y_get (j := 227) (len := 3) (r := (12, 12, 0, 1340)) (by decide +kernel) hg3408 (t52 hg3408) at52 rfl rfl hv3420 ?_
  refine y_rI (len := 1) (r := (0, 0, 0, 0)) (nL := 2) (k := 1) (n9 := 2) (hs := []) (by decide +kernel) rfl rfl ?_
  exact ⟨_, hg3408, RM_up rm (fun k j hC => (ho3408 k j (by omega))), fun k j hC => (ho3408 k j (by omega)), by omega, _, hs3408, by omega⟩
theorem m_toldX {t : Nat} {τ : List Nat} {h : zh} {cur : bsT} {hs : List bsT} {xw : Int32} (hg : hG τ h) (rm : RM h cur hs) (hw : ¬ (0 ≤ xw.toInt ∧ xw.toInt ≤ 6)) : qI 60 194 [some (.inl (some 52)), some (zi xw)] h t (fun y h1 => ∃ τ1, hG τ1 h1 ∧ RM h1 cur hs ∧ frM h h1 ∧ ∃ z : Int32, hsl h1 52 0 = some (zi z) ∧ z.toInt = 1) := by
  refine qI_le (d := 31) (by decide) (qI_of ?_)
  have lz := len55 hg rm.1
  obtain ⟨⟨xp0z, hp0z, ep0z⟩, ⟨xc0z, hc0z, ec0z⟩, ip0z, ic0z⟩ := rm.1.1
  obtain ⟨⟨xp1z, hp1z, ep1z⟩, ⟨xc1z, hc1z, ec1z⟩, ip1z, ic1z⟩ := rm.1.2
  obtain ⟨xk, hk, ek⟩ := rm.2.2.1
  refine y_same (i := .aload_n 0) (len := 1) (r := (0, 0, 0, 0)) (pc' := 1) (ls' := [some (.inl (some 52)), some (zi xw)]) (st' := [.inl (some 52)]) (by decide +kernel) (fun k q => by cases q) rfl ?_
  refine y_ic (c := 0) (len := 1) (r := (0, 0, 0, 0)) (by decide +kernel) (by decide) (fun y3421 hy3421 => ?_)
  refine y_put (j := 92) (lo := (-2147483648)) (hi := 2147483647) (len := 3) (r := (12, 0, 0, 1328)) (by decide +kernel) hg (t52 hg) at52 rfl rfl (by decide) rfl (qin_full _).1 (qin_full _).2 rfl (fun h3422 hg3422 hl3422 hs3422 ho3422 => ?_)
  have ho3422 : hO 52 0 h h3422 := ho3422
  have hs3422 : hsl h3422 52 0 = some (zi y3421) := hs3422
  refine y_same (i := .aload_n 0) (len := 1) (r := (0, 0, 0, 0)) (pc' := 6) (ls' := [some (.inl (some 52)), some (zi xw)]) (st' := [.inl (some 52)]) (by decide +kernel) (fun k q => by cases q) rfl ?_
  refine y_same (i := .iload_n 1) (len := 1) (r := (0, 0, 0, 0)) (pc' := 7) (ls' := [some (.inl (some 52)), some (zi xw)]) (st' := [zi xw, .inl (some 52)]) (by decide +kernel) (fun k q => by cases q) rfl ?_
  refine y_ic (c := 0) (len := 1) (r := (0, 0, 0, 0)) (by decide +kernel) (by decide) (fun y3423 hy3423 => ?_)
  refine y_bi (c := 6) (len := 2) (r := (0, 0, 0, 0)) (by decide +kernel) (by decide) (fun y3424 hy3424 => ?_)
  refine y_cI (i := .invokestatic 200) (len := 3) (r := (1, 162, 12, 1486)) (nL := 3) (k := 2) (n := 3) (hs := []) (args := [zi xw, zi y3423, zi y3424]) (rest := [.inl (some 52)]) (l0 := [some (zi xw), some (zi y3423), some (zi y3424)]) (by decide +kernel) (Or.inl ⟨_, rfl⟩) rfl rfl rfl rfl (Nat.le_of_ble_eq_true rfl) rfl rfl (qI_le (by decide) (m_in0 (d := 0) (by omega))) (fun y3425 qy3425 hRy3425 => ?_)
  obtain ⟨rfl, hy3425⟩ := hRy3425
  refine y_iF (c := .ne) (off := 7) (len := 3) (r := (0, 0, 0, 0)) (by decide +kernel) (acmpF (c := .ne) (by show _ = _; omega)) ?_
  refine y_ic (c := 1) (len := 1) (r := (0, 0, 0, 0)) (by decide +kernel) (by decide) (fun y3426 hy3426 => ?_)
  refine y_goto (off := 4) (pc' := 21) (len := 3) (r := (0, 0, 0, 0)) (by decide +kernel) (by decide +kernel) ?_
  refine y_ic (c := 1) (len := 1) (r := (0, 0, 0, 0)) (by decide +kernel) (by decide) (fun y3427 hy3427 => ?_)
  refine y_ic (c := 1) (len := 1) (r := (0, 0, 0, 0)) (by decide +kernel) (by decide) (fun y3428 hy3428 => ?_)
  refine y_cI (i := .invokevirtual 204) (len := 3) (r := (0, 161, 12, 1489)) (nL := 4) (k := 2) (n := 4) (hs := []) (args := [.inl (some 52), zi y3426, zi y3427, zi y3428]) (rest := []) (l0 := [some (.inl (some 52)), some (zi y3426), some (zi y3427), some (zi y3428)]) (by decide +kernel) (Or.inr (Or.inl ⟨_, rfl⟩)) rfl rfl rfl rfl (Nat.le_of_ble_eq_true rfl) (z52 hg3422) rfl (qI_le (by decide) (m_bad1 (d := 0) (e := 1) hg3422 (by omega) (by omega) (by omega) (by omega) hs3422 (by omega))) (fun y3429 h3429 hRy3429 => ?_)
  obtain ⟨hg3429, hy3429, ⟨z3429, hz3429, ez3429⟩, F3429⟩ := hRy3429
  refine y_iF (c := .eq) (off := 5) (len := 3) (r := (0, 0, 0, 0)) (by decide +kernel) (acmpF (c := .eq) (by show ¬ (_ = _); omega)) ?_
  refine y_ic (c := 0) (len := 1) (r := (0, 0, 0, 0)) (by decide +kernel) (by decide) (fun y3430 hy3430 => ?_)
  refine y_rI (len := 1) (r := (0, 0, 0, 0)) (nL := 2) (k := 1) (n9 := 2) (hs := []) (by decide +kernel) rfl rfl ?_
  exact ⟨_, hg3429, RM_up rm (fun k j hC => ((F3429 k j (by omega)).trans (ho3422 k j (by omega)))), fun k j hC => ((F3429 k j (by omega)).trans (ho3422 k j (by omega))), _, hz3429, by omega⟩
def toldV (cur : bsT) (hs : List bsT) (T : Nat) (w : Int) : Int := if w = 0 then (cur.1.1.length : Int) else if w = 1 then (cur.2.1.length : Int) else if w = 2 then (cur.1.2.length : Int) else if w = 3 then (cur.2.2.length : Int) else if w = 4 then (pop6 (letN cur) : Int) else if w = 5 then (T : Int) else (hs.length : Int)
def toldT (w : Int) : Int := if 0 ≤ w ∧ w ≤ 6 then 0 else 1
theorem lx_toldC {t T : Nat} {τ : List Nat} {h : zh} {cur : bsT} {hs : List bsT} (hg : hG τ h) (i0 : IV h T) {xw : Int32} (rc : RC h cur hs) (rm : RM h cur hs) : ∃ (y : Int32) (h1 : zh) (t1 : Nat), qE 60 279 [some (.inl (some 0)), some (zi xw), some (.inl (some 388)), none] h t (.inl (some (zi y)), h1, t1) ∧ t1 ≤ t + 1 ∧ ∃ τ1, hG τ1 h1 ∧ IV h1 T ∧ RC h1 cur hs ∧ RM h1 cur hs ∧ y.toInt = toldT xw.toInt ∧ (y.toInt = 0 → ∃ z : Int32, ou_ h1 z ∧ z.toInt = toldV cur hs T xw.toInt) := by
  have ok := RM_ok hg rm
  obtain ⟨xT, hT, eT⟩ := i0.2.2.2.2.1
  unfold toldT
  rcases Decidable.em (0 ≤ xw.toInt ∧ xw.toInt ≤ 6) with hw | hw
  · rw [if_pos hw]
    rcases (show xw.toInt = 0 ∨ xw.toInt = 1 ∨ xw.toInt = 2 ∨ xw.toInt = 3 ∨ xw.toInt = 4 ∨ xw.toInt = 5 ∨ xw.toInt = 6 by omega) with q0 | q1 | q2 | q3 | q4 | q5 | q6
    · obtain ⟨y, h1, e, g1, ey, F, z, hz, ez⟩ := c_ltold (t := t) hg (c_told0 (xw := xw) hg rc i0.2.2.2.1 hT eT ok q0)
      have f : frC h h1 := fun k j hC => F k j (by omega)
      refine ⟨y, h1, t, e, by omega, τ, g1, frC_IV f i0, RC_up rc (fun k j hC => F2 F k j (by omega)), frC_RM f rm, ey, fun _ => ⟨z, hz, ?_⟩⟩
      unfold toldV
      rw [if_pos q0]
      exact ez
    · obtain ⟨y, h1, e, g1, ey, F, z, hz, ez⟩ := c_ltold (t := t) hg (c_told1 (xw := xw) hg rc i0.2.2.2.1 hT eT ok q1)
      have f : frC h h1 := fun k j hC => F k j (by omega)
      refine ⟨y, h1, t, e, by omega, τ, g1, frC_IV f i0, RC_up rc (fun k j hC => F2 F k j (by omega)), frC_RM f rm, ey, fun _ => ⟨z, hz, ?_⟩⟩
      unfold toldV
      rw [if_neg (show ¬ xw.toInt = 0 by omega), if_pos q1]
      exact ez
    · obtain ⟨y, h1, e, g1, ey, F, z, hz, ez⟩ := c_ltold (t := t) hg (c_told2 (xw := xw) hg rc i0.2.2.2.1 hT eT ok q2)
      have f : frC h h1 := fun k j hC => F k j (by omega)
      refine ⟨y, h1, t, e, by omega, τ, g1, frC_IV f i0, RC_up rc (fun k j hC => F2 F k j (by omega)), frC_RM f rm, ey, fun _ => ⟨z, hz, ?_⟩⟩
      unfold toldV
      rw [if_neg (show ¬ xw.toInt = 0 by omega), if_neg (show ¬ xw.toInt = 1 by omega), if_pos q2]
      exact ez
    · obtain ⟨y, h1, e, g1, ey, F, z, hz, ez⟩ := c_ltold (t := t) hg (c_told3 (xw := xw) hg rc i0.2.2.2.1 hT eT ok q3)
      have f : frC h h1 := fun k j hC => F k j (by omega)
      refine ⟨y, h1, t, e, by omega, τ, g1, frC_IV f i0, RC_up rc (fun k j hC => F2 F k j (by omega)), frC_RM f rm, ey, fun _ => ⟨z, hz, ?_⟩⟩
      unfold toldV
      rw [if_neg (show ¬ xw.toInt = 0 by omega), if_neg (show ¬ xw.toInt = 1 by omega), if_neg (show ¬ xw.toInt = 2 by omega), if_pos q3]
      exact ez
    · obtain ⟨y, h1, e, g1, ey, F, z, hz, ez⟩ := c_ltold (t := t) hg (c_told4 (xw := xw) hg rc i0.2.2.2.1 hT eT ok q4)
      have f : frC h h1 := fun k j hC => F k j (by omega)
      refine ⟨y, h1, t, e, by omega, τ, g1, frC_IV f i0, RC_up rc (fun k j hC => F2 F k j (by omega)), frC_RM f rm, ey, fun _ => ⟨z, hz, ?_⟩⟩
      unfold toldV
      rw [if_neg (show ¬ xw.toInt = 0 by omega), if_neg (show ¬ xw.toInt = 1 by omega), if_neg (show ¬ xw.toInt = 2 by omega), if_neg (show ¬ xw.toInt = 3 by omega), if_pos q4]
      exact ez
    · obtain ⟨y, h1, e, g1, ey, F, z, hz, ez⟩ := c_ltold (t := t) hg (c_told5 (xw := xw) hg rc i0.2.2.2.1 hT eT ok q5)
      have f : frC h h1 := fun k j hC => F k j (by omega)
      refine ⟨y, h1, t, e, by omega, τ, g1, frC_IV f i0, RC_up rc (fun k j hC => F2 F k j (by omega)), frC_RM f rm, ey, fun _ => ⟨z, hz, ?_⟩⟩
      unfold toldV
      rw [if_neg (show ¬ xw.toInt = 0 by omega), if_neg (show ¬ xw.toInt = 1 by omega), if_neg (show ¬ xw.toInt = 2 by omega), if_neg (show ¬ xw.toInt = 3 by omega), if_neg (show ¬ xw.toInt = 4 by omega), if_pos q5]
      exact ez
    · obtain ⟨y, h1, e, g1, ey, F, z, hz, ez⟩ := c_ltold (t := t) hg (c_told6 (xw := xw) hg rc i0.2.2.2.1 hT eT ok q6)
      have f : frC h h1 := fun k j hC => F k j (by omega)
      refine ⟨y, h1, t, e, by omega, τ, g1, frC_IV f i0, RC_up rc (fun k j hC => F2 F k j (by omega)), frC_RM f rm, ey, fun _ => ⟨z, hz, ?_⟩⟩
      unfold toldV
      rw [if_neg (show ¬ xw.toInt = 0 by omega), if_neg (show ¬ xw.toInt = 1 by omega), if_neg (show ¬ xw.toInt = 2 by omega), if_neg (show ¬ xw.toInt = 3 by omega), if_neg (show ¬ xw.toInt = 4 by omega), if_neg (show ¬ xw.toInt = 5 by omega)]
      exact ez
  · rw [if_neg hw]
    obtain ⟨y, h1, e, ey, g1, F⟩ := c_ltoldX (t := t) hg hw
    have f : frC h h1 := fun k j hC => F k j (by omega)
    exact ⟨y, h1, t + 1, e, by omega, τ, g1, frC_IV f i0, RC_up rc (fun k j hC => F k j (by omega)), frC_RM f rm, ey, fun q9 => by omega⟩
theorem lx_toldM {t T : Nat} {τ : List Nat} {h : zh} {cur : bsT} {hs : List bsT} (hg : hG τ h) (i0 : IV h T) {xw : Int32} {c' : bsT} {hs' : List bsT} (cz : cz1 cur) (rc : RC h c' hs') (rm : RM h cur hs) : ∃ (y : Int32) (h1 : zh) (t1 : Nat), qE 60 194 [some (.inl (some 52)), some (zi xw)] h t (.inl (some (zi y)), h1, t1) ∧ t1 ≤ t + 0 ∧ ∃ τ1, hG τ1 h1 ∧ IV h1 T ∧ RC h1 c' hs' ∧ RM h1 cur hs ∧ hsl h1 388 0 = hsl h 388 0 ∧ (∃ z : Int32, hsl h1 52 0 = some (zi z) ∧ z.toInt = toldT xw.toInt) ∧ (toldT xw.toInt = 0 → y.toInt = toldV cur hs T xw.toInt) := by
  have ok := RM_ok hg rm
  obtain ⟨xT, hT, eT⟩ := i0.2.2.2.2.2.1
  unfold toldT
  rcases Decidable.em (0 ≤ xw.toInt ∧ xw.toInt ≤ 6) with hw | hw
  · rw [if_pos hw]
    rcases (show xw.toInt = 0 ∨ xw.toInt = 1 ∨ xw.toInt = 2 ∨ xw.toInt = 3 ∨ xw.toInt = 4 ∨ xw.toInt = 5 ∨ xw.toInt = 6 by omega) with q0 | q1 | q2 | q3 | q4 | q5 | q6
    · obtain ⟨y, h1, e, τ1, g1, m, f, ey, z⟩ := m_told0 (t := t) (xw := xw) hg rm hT eT ok cz q0
      refine ⟨y, h1, t, e, by omega, τ1, g1, frM_IV f i0, frM_RC f rc, m, f 388 0 (by omega), z, fun _ => ?_⟩
      unfold toldV
      rw [if_pos q0]
      exact ey
    · obtain ⟨y, h1, e, τ1, g1, m, f, ey, z⟩ := m_told1 (t := t) (xw := xw) hg rm hT eT ok cz q1
      refine ⟨y, h1, t, e, by omega, τ1, g1, frM_IV f i0, frM_RC f rc, m, f 388 0 (by omega), z, fun _ => ?_⟩
      unfold toldV
      rw [if_neg (show ¬ xw.toInt = 0 by omega), if_pos q1]
      exact ey
    · obtain ⟨y, h1, e, τ1, g1, m, f, ey, z⟩ := m_told2 (t := t) (xw := xw) hg rm hT eT ok cz q2
      refine ⟨y, h1, t, e, by omega, τ1, g1, frM_IV f i0, frM_RC f rc, m, f 388 0 (by omega), z, fun _ => ?_⟩
      unfold toldV
      rw [if_neg (show ¬ xw.toInt = 0 by omega), if_neg (show ¬ xw.toInt = 1 by omega), if_pos q2]
      exact ey
    · obtain ⟨y, h1, e, τ1, g1, m, f, ey, z⟩ := m_told3 (t := t) (xw := xw) hg rm hT eT ok cz q3
      refine ⟨y, h1, t, e, by omega, τ1, g1, frM_IV f i0, frM_RC f rc, m, f 388 0 (by omega), z, fun _ => ?_⟩
      unfold toldV
      rw [if_neg (show ¬ xw.toInt = 0 by omega), if_neg (show ¬ xw.toInt = 1 by omega), if_neg (show ¬ xw.toInt = 2 by omega), if_pos q3]
      exact ey
    · obtain ⟨y, h1, e, τ1, g1, m, f, ey, z⟩ := m_told4 (t := t) (xw := xw) hg rm hT eT ok cz q4
      refine ⟨y, h1, t, e, by omega, τ1, g1, frM_IV f i0, frM_RC f rc, m, f 388 0 (by omega), z, fun _ => ?_⟩
      unfold toldV
      rw [if_neg (show ¬ xw.toInt = 0 by omega), if_neg (show ¬ xw.toInt = 1 by omega), if_neg (show ¬ xw.toInt = 2 by omega), if_neg (show ¬ xw.toInt = 3 by omega), if_pos q4]
      exact ey
    · obtain ⟨y, h1, e, τ1, g1, m, f, ey, z⟩ := m_told5 (t := t) (xw := xw) hg rm hT eT ok cz q5
      refine ⟨y, h1, t, e, by omega, τ1, g1, frM_IV f i0, frM_RC f rc, m, f 388 0 (by omega), z, fun _ => ?_⟩
      unfold toldV
      rw [if_neg (show ¬ xw.toInt = 0 by omega), if_neg (show ¬ xw.toInt = 1 by omega), if_neg (show ¬ xw.toInt = 2 by omega), if_neg (show ¬ xw.toInt = 3 by omega), if_neg (show ¬ xw.toInt = 4 by omega), if_pos q5]
      exact ey
    · obtain ⟨y, h1, e, τ1, g1, m, f, ey, z⟩ := m_told6 (t := t) (xw := xw) hg rm hT eT ok cz q6
      refine ⟨y, h1, t, e, by omega, τ1, g1, frM_IV f i0, frM_RC f rc, m, f 388 0 (by omega), z, fun _ => ?_⟩
      unfold toldV
      rw [if_neg (show ¬ xw.toInt = 0 by omega), if_neg (show ¬ xw.toInt = 1 by omega), if_neg (show ¬ xw.toInt = 2 by omega), if_neg (show ¬ xw.toInt = 3 by omega), if_neg (show ¬ xw.toInt = 4 by omega), if_neg (show ¬ xw.toInt = 5 by omega)]
      exact ey
  · rw [if_neg hw]
    obtain ⟨y, h1, e, τ1, g1, m, f, z⟩ := m_toldX (t := t) (xw := xw) hg rm hw
    exact ⟨y, h1, t, e, by omega, τ1, g1, frM_IV f i0, frM_RC f rc, m, f 388 0 (by omega), z, fun q9 => absurd q9 (by decide)⟩
