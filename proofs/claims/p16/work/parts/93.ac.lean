/-! the class's acts -/
theorem RC_set {h h1 : zh} {cur cur' : bsT} {hs : List bsT} (rc : RC h cur hs) (hn : ∃ u v, uv_ u v ∧ layC h1 2 ∧ bsC h1 2 u v cur') (F : ∀ k j, (k = 13 ∨ k = 14 ∨ 388 < k) → hsl h1 k j = hsl h k j) : RC h1 cur' hs := by
  obtain ⟨p1, -, hl, s, n, hs9, en9, c1, c2, hh⟩ := rc
  refine ⟨⟨fun k hk => ?_, fun k k' a hk hk' r r' => p1.2 k k' a hk hk' ((F 14 k (by omega)).symm.trans r) ((F 14 k' (by omega)).symm.trans r')⟩, hn, hl, s, n, hs9, en9, ci_up c1 (F _ _ (by omega)), ci_up c2 (F _ _ (by omega)), fun j b hj => ?_⟩
  · rcases p1.1 k hk with e | ⟨a, r, o⟩
    · exact Or.inl ((F 14 k (by omega)).trans e)
    · have o9 := o.1
      exact Or.inr ⟨a, rfs_up r (F 14 k (by omega)), pO1_up o (fun k j h1 h2 => F k j (by omega))⟩
  · obtain ⟨a, r, hb⟩ := hh j b hj
    rcases p1.1 ((s + j) % 10) (by omega) with e | ⟨a', r', o⟩
    · have := r.symm.trans e
      cases this
    · have e := rfs_eq r r'
      subst e
      have o9 := o.1
      exact ⟨a, rfs_up r (F 14 _ (by omega)), bsC_up (Or.inl ⟨rfl, rfl⟩) hb (fun k j h1 h2 => F k j (by omega))⟩
theorem RC_up {h h1 : zh} {cur : bsT} {hs : List bsT} (rc : RC h cur hs) (F : ∀ k j, ((1 < k ∧ k < 15) ∨ 388 < k) → hsl h1 k j = hsl h k j) : RC h1 cur hs := by
  obtain ⟨u, v, hu, l2, b2⟩ := rc.2.1
  exact RC_set rc ⟨u, v, hu, layC_up l2 (fun k j h1 h2 => F k j (by omega)), bsC_up hu b2 (fun k j h1 h2 => F k j (by omega))⟩ (fun k j h1 => F k j (by omega))
theorem uv_sw {u v : Nat} (h : uv_ u v) : uv_ v u := by
  unfold uv_ at *
  omega
/-- what an act of the class leaves -/
def frC (h h1 : zh) : Prop := ∀ k j, ((k < 2 ∧ (k ≠ 0 ∨ j < 3 ∨ 4 < j)) ∨ (14 < k ∧ k < 388 ∧ ((k ≠ 28 ∧ k ≠ 35 ∧ k ≠ 42) ∨ j ≠ 5))) → hsl h1 k j = hsl h k j
theorem frC_tr {h h1 h2 : zh} (a : frC h h1) (b : frC h1 h2) : frC h h2 := fun k j c => (b k j c).trans (a k j c)
def rT (e : Nat) (R : zh → Prop) (t : Nat) (x : zo × zh × Nat) : Prop := ∃ h1 : zh, x = (.inr e, h1, t + 1) ∧ R h1
def qT (d mj : Nat) (l0 : List (Option zv)) (h : zh) (t e : Nat) (R : zh → Prop) : Prop := ∃ h1 : zh, qE d mj l0 h t (.inr e, h1, t + 1) ∧ R h1
theorem qT_of {d mj : Nat} {l0 : List (Option zv)} {h : zh} {t e : Nat} {R : zh → Prop} (k : qX d mj 0 l0 [] h t (rT e R t)) : qT (d + 1) mj l0 h t e R := by
  obtain ⟨x, k, h1, rfl, hR⟩ := k
  exact ⟨h1, qE_of k, hR⟩
theorem qT_le {d d' mj : Nat} {l0 : List (Option zv)} {h : zh} {t e : Nat} {R : zh → Prop} (hd : d ≤ d') (k : qT d mj l0 h t e R) : qT d' mj l0 h t e R := by
  obtain ⟨h1, k, hR⟩ := k
  exact ⟨h1, qE_le hd k, hR⟩
theorem qA_le {d d' mj : Nat} {l0 : List (Option zv)} {h : zh} {t v : Nat} {R : zh → Prop} (hd : d ≤ d') (k : qA d mj l0 h t v R) : qA d' mj l0 h t v R := by
  obtain ⟨h1, k, hR⟩ := k
  exact ⟨h1, qE_le hd k, hR⟩
theorem y_thr {d mi pc : Nat} {ls : List (Option zv)} {h : zh} {t : Nat} {len : Nat} {r : zr} {k : Nat} {R : zh → Prop} (hf : zfetch mi pc = some (.new k, len, r)) (h9 : Nat.beq r.1 99 = true) (hR : R h) : qX d mi pc ls [] h t (rT r.2.1 R t) := ⟨_, qF_thr hf h9, h, rfl, hR⟩
theorem y_cA {d mi pc : Nat} {ls : List (Option zv)} {st : List zv} {h : zh} {t : Nat} {P : zo × zh × Nat → Prop} {len : Nat} {r : zr} {i : Instr} {nL k n v : Nat} {hs : List (Nat × Nat × Nat × Nat)} {args rest : List zv} {l0 : List (Option zv)} {R : zh → Prop} (hf : zfetch mi pc = some (i, len, r)) (hi : (∃ k, i = .invokestatic k) ∨ (∃ k, i = .invokevirtual k) ∨ (∃ k, i = .invokespecial k)) (h5 : Nat.beq r.1 5 = false) (h7 : Nat.beq r.1 7 = false) (q1 : zmeth r.2.1 = some (nL, k, n, hs)) (q2 : zpop n [] st = some (args, rest)) (q3 : zcat rest ≤ 8) (q4 : zargs r args h = true) (q5 : zent args nL = some l0) (hE : qA d r.2.1 l0 h t v R) (kk : ∀ (h1 : zh), R h1 → qX d mi (pc + 3) ls (.inl (some v) :: rest) h1 t P) : qX d mi pc ls st h t P := by
  obtain ⟨h1, hE, hR⟩ := hE
  obtain ⟨x, k9, hP⟩ := kk h1 hR
  exact ⟨x, qF_call hf hi h5 h7 q1 q2 q3 q4 q5 hE (qB_val k9), hP⟩
theorem y_cX {d mi pc : Nat} {ls : List (Option zv)} {st : List zv} {h : zh} {t : Nat} {P : zo × zh × Nat → Prop} {len : Nat} {r : zr} {i : Instr} {nL k n e : Nat} {hs : List (Nat × Nat × Nat × Nat)} {args rest : List zv} {l0 : List (Option zv)} {R : zh → Prop} {mL mk m9 : Nat} {ms : List (Nat × Nat × Nat × Nat)} (hf : zfetch mi pc = some (i, len, r)) (hi : (∃ k, i = .invokestatic k) ∨ (∃ k, i = .invokevirtual k) ∨ (∃ k, i = .invokespecial k)) (h5 : Nat.beq r.1 5 = false) (h7 : Nat.beq r.1 7 = false) (q1 : zmeth r.2.1 = some (nL, k, n, hs)) (q2 : zpop n [] st = some (args, rest)) (q3 : zcat rest ≤ 8) (q4 : zargs r args h = true) (q5 : zent args nL = some l0) (h0 : Nat.beq r.1 0 = true) (hm : zmeth mi = some (mL, mk, m9, ms)) (hh : zhand ms pc e = none) (hE : qT d r.2.1 l0 h t e R) (kk : ∀ (h1 : zh), R h1 → P (.inr e, h1, t + 1)) : qX d mi pc ls st h t P := by
  obtain ⟨h1, hE, hR⟩ := hE
  exact ⟨_, qF_call hf hi h5 h7 q1 q2 q3 q4 q5 hE (by rw [h0]; exact qB_out hm hh), kk h1 hR⟩
theorem y_cC {d mi pc : Nat} {ls : List (Option zv)} {st : List zv} {h : zh} {t : Nat} {P : zo × zh × Nat → Prop} {len : Nat} {r : zr} {i : Instr} {nL k n e kc : Nat} {hs : List (Nat × Nat × Nat × Nat)} {args rest : List zv} {l0 : List (Option zv)} {R : zh → Prop} {mL mk m9 : Nat} {ms : List (Nat × Nat × Nat × Nat)} (hf : zfetch mi pc = some (i, len, r)) (hi : (∃ k, i = .invokestatic k) ∨ (∃ k, i = .invokevirtual k) ∨ (∃ k, i = .invokespecial k)) (h5 : Nat.beq r.1 5 = false) (h7 : Nat.beq r.1 7 = false) (q1 : zmeth r.2.1 = some (nL, k, n, hs)) (q2 : zpop n [] st = some (args, rest)) (q3 : zcat rest ≤ 8) (q4 : zargs r args h = true) (q5 : zent args nL = some l0) (h0 : Nat.beq r.1 0 = true) (hm : zmeth mi = some (mL, mk, m9, ms)) (hh : zhand ms pc e = some kc) (hE : qT d r.2.1 l0 h t e R) (kk : ∀ (h1 : zh), R h1 → qX d mi kc ls [.inl (some 1000001)] h1 (t + 1) P) : qX d mi pc ls st h t P := by
  obtain ⟨h1, hE, hR⟩ := hE
  obtain ⟨x, k9, hP⟩ := kk h1 hR
  exact ⟨x, qF_call hf hi h5 h7 q1 q2 q3 q4 q5 hE (by rw [h0]; exact qB_catch hm hh k9), hP⟩
/-- what the law's own array holds behind a call -/
def ou_ (h : zh) (w : Int32) : Prop := hsl h 388 0 = some (.inr (.inr (.inl w.toInt64)))
theorem y_i2l2 {d mi pc : Nat} {ls : List (Option zv)} {h : zh} {t : Nat} {P : zo × zh × Nat → Prop} {len : Nat} {r : zr} {a : Int32} {st' : List zv} (hf : zfetch mi pc = some (.i2l, len, r)) (k : qX d mi (pc + 1) ls (.inr (.inr (.inl a.toInt64)) :: st') h t P) : qX d mi pc ls (zi a :: st') h t P := by
  refine y_same hf (fun k q => by cases q) (stH_A' rfl ?_) k
  show zun zi2l pc ls (zi a :: st') = _
  unfold zun
  show (match frcL a.toInt64 (fun z => some (.inr (.inr (.inl z)) : zv)) with
    | some v => some (pc + 1, ls, v :: st')
    | none => none) = _
  rw [frcL_eq]
theorem y_las2 {d mi pc : Nat} {ls : List (Option zv)} {h : zh} {t : Nat} {P : zo × zh × Nat → Prop} {len : Nat} {r : zr} {τ : List Nat} {A T i : Nat} {st' : List zv} {n : Int32} {w : Int64} {L : Nat} {rs : List (Nat × qs)} (hf : zfetch mi pc = some (.lastore, len, r)) (hg : hG τ h) (hA : τ[A]? = some T) (hT : atyp T = some (.inl (2, L, rs))) (hp : aprot T = false) (hn : n.toInt = (i : Int)) (hi9 : i < L) (hq : srng rs i = some (.inr (.inr ()))) (k : ∀ h2 : zh, hG τ h2 → hsl h2 A i = some (.inr (.inr (.inl w))) → hO A i h h2 → qX d mi (pc + 1) ls st' h2 t P) : qX d mi pc ls (.inr (.inr (.inl w)) :: zi n :: .inl (some A) :: st') h t P := by
  obtain ⟨fs, hc, hl⟩ := g_arr hg hA hT
  obtain ⟨k1, k2, k3, k4⟩ := g_put (v := .inr (.inr (.inl w))) hg hA hT hi9 hq ⟨w, rfl⟩ hp
  refine y_step hf (fun k q => by cases q) (z := some (.inl (A, i, .inr (.inr (.inl w))))) ?_ (k _ k1 k3 k4)
  show zast (fun t => Nat.beq t 2) (fun _ v => zfit 3 v) pc ls (.inr (.inr (.inl w)) :: zi n :: .inl (some A) :: st') h = _
  unfold zast
  simp only [zarr_at hc]
  rw [zix_ex hn (by omega)]
  rfl
theorem c_forg {d t : Nat} {τ : List Nat} {h : zh} (hg : hG τ h) : qV (d + 1) 154 [some (.inl (some 0))] h t (fun h1 => hG τ h1 ∧ ∀ k j, ((k ≠ 28 ∧ k ≠ 35 ∧ k ≠ 42) ∨ j ≠ 5) → hsl h1 k j = hsl h k j) := by
  refine qV_of ?_
  refine y_same (i := .aload_n 0) (len := 1) (r := (0, 0, 0, 0)) (pc' := 1) (ls' := [some (.inl (some 0))]) (st' := [.inl (some 0)]) (by decide +kernel) (fun k q => by cases q) rfl ?_
  refine y_get (j := 52) (len := 3) (r := (11, 8, 2, 407)) (by decide +kernel) hg (tv0 hg) aw0 rfl rfl (g_rU (f := 8) (T2 := 28) hg (tv0 hg) aw0 rfl (by decide)) ?_
  refine y_ic (c := 0) (len := 1) (r := (0, 0, 0, 0)) (by decide +kernel) (by decide) (fun y1892 hy1892 => ?_)
  refine y_put (j := 238) (lo := 0) (hi := 1) (len := 3) (r := (4, 5, 1, 20288)) (by decide +kernel) hg (tv28 hg) aw28 rfl rfl (by decide) rfl (by omega) (by omega) (zfit_b (by omega) (by omega)).1 (fun h1893 hg1893 hl1893 hs1893 ho1893 => ?_)
  have ho1893 : hO 28 5 h h1893 := ho1893
  have hs1893 : hsl h1893 28 5 = some (zi y1892) := hs1893
  refine y_same (i := .aload_n 0) (len := 1) (r := (0, 0, 0, 0)) (pc' := 9) (ls' := [some (.inl (some 0))]) (st' := [.inl (some 0)]) (by decide +kernel) (fun k q => by cases q) rfl ?_
  refine y_get (j := 56) (len := 3) (r := (11, 9, 2, 408)) (by decide +kernel) hg1893 (tv0 hg1893) aw0 rfl rfl (g_rU (f := 9) (T2 := 35) hg1893 (tv0 hg1893) aw0 rfl (by decide)) ?_
  refine y_ic (c := 0) (len := 1) (r := (0, 0, 0, 0)) (by decide +kernel) (by decide) (fun y1894 hy1894 => ?_)
  refine y_put (j := 238) (lo := 0) (hi := 1) (len := 3) (r := (4, 5, 1, 20288)) (by decide +kernel) hg1893 (tv35 hg1893) aw35 rfl rfl (by decide) rfl (by omega) (by omega) (zfit_b (by omega) (by omega)).1 (fun h1895 hg1895 hl1895 hs1895 ho1895 => ?_)
  have ho1895 : hO 35 5 h1893 h1895 := ho1895
  have hs1895 : hsl h1895 35 5 = some (zi y1894) := hs1895
  refine y_same (i := .aload_n 0) (len := 1) (r := (0, 0, 0, 0)) (pc' := 17) (ls' := [some (.inl (some 0))]) (st' := [.inl (some 0)]) (by decide +kernel) (fun k q => by cases q) rfl ?_
  refine y_get (j := 62) (len := 3) (r := (11, 10, 2, 409)) (by decide +kernel) hg1895 (tv0 hg1895) aw0 rfl rfl (g_rU (f := 10) (T2 := 42) hg1895 (tv0 hg1895) aw0 rfl (by decide)) ?_
  refine y_ic (c := 0) (len := 1) (r := (0, 0, 0, 0)) (by decide +kernel) (by decide) (fun y1896 hy1896 => ?_)
  refine y_put (j := 242) (lo := 0) (hi := 1) (len := 3) (r := (10, 5, 1, 20365)) (by decide +kernel) hg1895 (tv42 hg1895) aw42 rfl rfl (by decide) rfl (by omega) (by omega) (zfit_b (by omega) (by omega)).1 (fun h1897 hg1897 hl1897 hs1897 ho1897 => ?_)
  have ho1897 : hO 42 5 h1895 h1897 := ho1897
  have hs1897 : hsl h1897 42 5 = some (zi y1896) := hs1897
  refine y_rV (len := 1) (r := (0, 0, 0, 0)) (nL := 1) (n9 := 1) (hs := []) (by decide +kernel) rfl ?_
  exact ⟨hg1897, fun k j hC => ((ho1897 k j (by omega)).trans ((ho1895 k j (by omega)).trans (ho1893 k j (by omega))))⟩
theorem c_exc {d t u v : Nat} {τ : List Nat} {h : zh} (hg : hG τ h) (t0 : τ[2 + u]? = some 1001) (t1 : τ[2 + v]? = some 1001) (r0 : rfs h 2 0 (2 + u)) (r1 : rfs h 2 1 (2 + v)) : qV (d + 1) 110 [some (.inl (some 2)), none] h t (fun h1 => hG τ h1 ∧ rfs h1 2 0 (2 + v) ∧ rfs h1 2 1 (2 + u) ∧ ∀ k j, k ≠ 2 → hsl h1 k j = hsl h k j) := by
  refine qV_of ?_
  refine y_same (i := .aload_n 0) (len := 1) (r := (0, 0, 0, 0)) (pc' := 1) (ls' := [some (.inl (some 2)), none]) (st' := [.inl (some 2)]) (by decide +kernel) (fun k q => by cases q) rfl ?_
  refine y_get (j := 10) (len := 3) (r := (9, 0, 2, 197)) (by decide +kernel) hg (tv2 hg) aw1000 rfl rfl r0 ?_
  refine y_same (i := .astore_n 1) (len := 1) (r := (0, 0, 0, 0)) (pc' := 5) (ls' := [some (.inl (some 2)), some (.inl (some ((2 + u))))]) (st' := []) (by decide +kernel) (fun k q => by cases q) rfl ?_
  refine y_same (i := .aload_n 0) (len := 1) (r := (0, 0, 0, 0)) (pc' := 6) (ls' := [some (.inl (some 2)), some (.inl (some ((2 + u))))]) (st' := [.inl (some 2)]) (by decide +kernel) (fun k q => by cases q) rfl ?_
  refine y_same (i := .aload_n 0) (len := 1) (r := (0, 0, 0, 0)) (pc' := 7) (ls' := [some (.inl (some 2)), some (.inl (some ((2 + u))))]) (st' := [.inl (some 2), .inl (some 2)]) (by decide +kernel) (fun k q => by cases q) rfl ?_
  refine y_get (j := 16) (len := 3) (r := (9, 1, 2, 202)) (by decide +kernel) hg (tv2 hg) aw1000 rfl rfl r1 ?_
  refine y_pur2 (j := 10) (len := 3) (r := (9, 0, 2, 197)) (by decide +kernel) hg (tv2 hg) aw1000 rfl rfl (by decide) rfl t1 rfl (fun h1898 hg1898 hs1898 ho1898 => ?_)
  have ho1898 : hO 2 0 h h1898 := ho1898
  have hs1898 : rfs h1898 2 0 (2 + v) := hs1898
  refine y_same (i := .aload_n 0) (len := 1) (r := (0, 0, 0, 0)) (pc' := 14) (ls' := [some (.inl (some 2)), some (.inl (some ((2 + u))))]) (st' := [.inl (some 2)]) (by decide +kernel) (fun k q => by cases q) rfl ?_
  refine y_same (i := .aload_n 1) (len := 1) (r := (0, 0, 0, 0)) (pc' := 15) (ls' := [some (.inl (some 2)), some (.inl (some ((2 + u))))]) (st' := [.inl (some ((2 + u))), .inl (some 2)]) (by decide +kernel) (fun k q => by cases q) rfl ?_
  refine y_pur2 (j := 16) (len := 3) (r := (9, 1, 2, 202)) (by decide +kernel) hg1898 (tv2 hg1898) aw1000 rfl rfl (by decide) rfl t0 rfl (fun h1899 hg1899 hs1899 ho1899 => ?_)
  have ho1899 : hO 2 1 h1898 h1899 := ho1899
  have hs1899 : rfs h1899 2 1 (2 + u) := hs1899
  refine y_rV (len := 1) (r := (0, 0, 0, 0)) (nL := 2) (n9 := 1) (hs := []) (by decide +kernel) rfl ?_
  have hv1900 := (ho1899 2 0 (Or.inr (by omega))).trans hs1898
  exact ⟨hg1899, hv1900, hs1899, fun k j hC => ((ho1899 k j (by omega)).trans (ho1898 k j (by omega)))⟩
theorem sz5 {τ : List Nat} {h : zh} {A : Nat} {x : Int32} (hg : hG τ h) (hA : τ[A]? = some 1002) (e : hsl h A 1 = some (zi x)) : 0 ≤ x.toInt ∧ x.toInt ≤ 5 := by
  obtain ⟨y, e1, e2, e3⟩ := g_int (i := 1) (lo := 0) (hi := 5) hg hA aw1002 (by decide) rfl
  have := e.symm.trans e1
  cases this
  exact ⟨e2, e3⟩
theorem sz6 {τ : List Nat} {h : zh} {A : Nat} {x : Int32} (hg : hG τ h) (hA : τ[A]? = some 1003) (e : hsl h A 1 = some (zi x)) : 0 ≤ x.toInt ∧ x.toInt ≤ 6 := by
  obtain ⟨y, e1, e2, e3⟩ := g_int (i := 1) (lo := 0) (hi := 6) hg hA aw1003 (by decide) rfl
  have := e.symm.trans e1
  cases this
  exact ⟨e2, e3⟩
theorem c_cnt {d t : Nat} {τ : List Nat} {h : zh} {cur : bsT} {hs : List bsT} (hg : hG τ h) (rc : RC h cur hs) : qI (d + 1) 111 [some (.inl (some 2))] h t (fun y h1 => h = h1 ∧ y.toInt = ((cur.1.1.length + cur.2.1.length : Nat) : Int)) := by
  refine qI_of ?_
  obtain ⟨-, ⟨uz, vz, huz, l2z, b2z⟩, -⟩ := id rc
  have uuz : (uz = 1 ∧ vz = 6) ∨ (uz = 6 ∧ vz = 1) := huz
  have tyz := ty_u (tyB_of hg huz (tv2 hg) b2z.1 b2z.2.1 l2z) huz
  have laz := lay_u l2z huz
  obtain ⟨⟨⟨xp0z, hp0z, ep0z⟩, ip0z⟩, ⟨xc0z, hc0z, ec0z⟩, ic0z⟩ := b2z.2.2.1
  obtain ⟨⟨⟨xp1z, hp1z, ep1z⟩, ip1z⟩, ⟨xc1z, hc1z, ec1z⟩, ic1z⟩ := b2z.2.2.2
  refine y_same (i := .aload_n 0) (len := 1) (r := (0, 0, 0, 0)) (pc' := 1) (ls' := [some (.inl (some 2))]) (st' := [.inl (some 2)]) (by decide +kernel) (fun k q => by cases q) rfl ?_
  refine y_get (j := 10) (len := 3) (r := (9, 0, 2, 197)) (by decide +kernel) hg (tv2 hg) aw1000 rfl rfl b2z.1 ?_
  refine y_get (j := 23) (len := 3) (r := (8, 0, 2, 20180)) (by decide +kernel) hg tyz.1.1 aw1001 rfl rfl laz.1.1 ?_
  refine y_get (j := 27) (len := 3) (r := (6, 1, 0, 20167)) (by decide +kernel) hg tyz.1.2.1 aw1002 rfl rfl hp0z ?_
  refine y_same (i := .aload_n 0) (len := 1) (r := (0, 0, 0, 0)) (pc' := 11) (ls' := [some (.inl (some 2))]) (st' := [.inl (some 2), zi xp0z]) (by decide +kernel) (fun k q => by cases q) rfl ?_
  refine y_get (j := 16) (len := 3) (r := (9, 1, 2, 202)) (by decide +kernel) hg (tv2 hg) aw1000 rfl rfl b2z.2.1 ?_
  refine y_get (j := 23) (len := 3) (r := (8, 0, 2, 20180)) (by decide +kernel) hg tyz.2.1 aw1001 rfl rfl laz.2.1 ?_
  refine y_get (j := 27) (len := 3) (r := (6, 1, 0, 20167)) (by decide +kernel) hg tyz.2.2.1 aw1002 rfl rfl hp1z ?_
  obtain ⟨b1, b2⟩ := sz5 hg (tyz).1.2.1 hp0z
  obtain ⟨b3, b4⟩ := sz5 hg (tyz).2.2.1 hp1z
  refine y_add (len := 1) (r := (0, 0, 0, 0)) (by decide +kernel) (by omega) (by omega) (fun y1901 hy1901 => ?_)
  refine y_rI (len := 1) (r := (0, 0, 0, 0)) (nL := 1) (k := 1) (n9 := 1) (hs := []) (by decide +kernel) rfl rfl ?_
  exact ⟨rfl, by omega⟩
theorem c_turn2 {t : Nat} {τ : List Nat} {h : zh} {cur : bsT} {hs : List bsT} (hg : hG τ h) (rc : RC h cur hs) (r5 : hsl h 0 5 = some (.inl (some 2))) : qI 60 135 [some (.inl (some 0))] h t (fun y h1 => ∃ τ1, hG τ1 h1 ∧ RC h1 (cur.2, cur.1) (psh hs cur) ∧ frC h h1 ∧ y.toInt = ((cur.2.1.length + cur.1.1.length : Nat) : Int)) := by
  refine qI_le (d := 21) (by decide) (qI_of ?_)
  refine y_same (i := .aload_n 0) (len := 1) (r := (0, 0, 0, 0)) (pc' := 1) (ls' := [some (.inl (some 0))]) (st' := [.inl (some 0)]) (by decide +kernel) (fun k q => by cases q) rfl ?_
  refine y_get (j := 36) (len := 3) (r := (11, 6, 2, 405)) (by decide +kernel) hg (tv0 hg) aw0 rfl rfl (g_rU (f := 6) (T2 := 13) hg (tv0 hg) aw0 rfl (by decide)) ?_
  refine y_same (i := .aload_n 0) (len := 1) (r := (0, 0, 0, 0)) (pc' := 5) (ls' := [some (.inl (some 0))]) (st' := [.inl (some 0), .inl (some 13)]) (by decide +kernel) (fun k q => by cases q) rfl ?_
  refine y_get (j := 29) (len := 3) (r := (11, 5, 2, 404)) (by decide +kernel) hg (tv0 hg) aw0 rfl rfl r5 ?_
  refine y_cV (i := .invokevirtual 83) (len := 3) (r := (0, 24, 2, 449)) (nL := 2) (k := 0) (n := 2) (hs := []) (args := [.inl (some 13), .inl (some 2)]) (rest := []) (l0 := [some (.inl (some 13)), some (.inl (some 2))]) (by decide +kernel) (Or.inr (Or.inl ⟨_, rfl⟩)) rfl rfl rfl rfl (Nat.le_of_ble_eq_true rfl) (zO hg (tv13 hg) aw13 rfl) rfl (qV_le (by decide) (e_keep hg rc)) (fun h1902 hR1902 => ?_)
  obtain ⟨τ1902, au1902, hg1902, rc1902, F1902⟩ := hR1902
  obtain ⟨-, ⟨u1902, v1902, hu1902, l21902, b21902⟩, -⟩ := id rc1902
  have uu1902 : (u1902 = 1 ∧ v1902 = 6) ∨ (u1902 = 6 ∧ v1902 = 1) := hu1902
  have ty1902 := ty_u (tyB_of hg1902 hu1902 (tv2 hg1902) b21902.1 b21902.2.1 l21902) hu1902
  have la1902 := lay_u l21902 hu1902
  obtain ⟨⟨⟨xp01902, hp01902, ep01902⟩, ip01902⟩, ⟨xc01902, hc01902, ec01902⟩, ic01902⟩ := b21902.2.2.1
  obtain ⟨⟨⟨xp11902, hp11902, ep11902⟩, ip11902⟩, ⟨xc11902, hc11902, ec11902⟩, ic11902⟩ := b21902.2.2.2
  refine y_same (i := .aload_n 0) (len := 1) (r := (0, 0, 0, 0)) (pc' := 12) (ls' := [some (.inl (some 0))]) (st' := [.inl (some 0)]) (by decide +kernel) (fun k q => by cases q) rfl ?_
  have hv1903 := (F1902 0 5 (by omega)).trans r5
  refine y_get (j := 29) (len := 3) (r := (11, 5, 2, 404)) (by decide +kernel) hg1902 (tv0 hg1902) aw0 rfl rfl hv1903 ?_
  refine y_cV (i := .invokevirtual 98) (len := 3) (r := (0, 110, 9, 470)) (nL := 2) (k := 0) (n := 1) (hs := []) (args := [.inl (some 2)]) (rest := []) (l0 := [some (.inl (some 2)), none]) (by decide +kernel) (Or.inr (Or.inl ⟨_, rfl⟩)) rfl rfl rfl rfl (Nat.le_of_ble_eq_true rfl) (zO hg1902 (tv2 hg1902) aw1000 rfl) rfl (qV_le (by decide) (c_exc (d := 0) hg1902 ty1902.1.1 ty1902.2.1 b21902.1 b21902.2.1)) (fun h1904 hR1904 => ?_)
  obtain ⟨hg1904, x01904, x11904, F1904⟩ := hR1904
  have rc1904 : RC h1904 (cur.2, cur.1) (psh hs cur) := RC_set rc1902 ⟨v1902, u1902, uv_sw hu1902, layC_up l21902 (fun k j h1 h2 => F1904 k j (by omega)), x01904, x11904, sdC_up b21902.2.2.2 (fun k j h1 h2 => F1904 k j (by omega)), sdC_up b21902.2.2.1 (fun k j h1 h2 => F1904 k j (by omega))⟩ (fun k j h1 => F1904 k j (by omega))
  refine y_same (i := .aload_n 0) (len := 1) (r := (0, 0, 0, 0)) (pc' := 19) (ls' := [some (.inl (some 0))]) (st' := [.inl (some 0)]) (by decide +kernel) (fun k q => by cases q) rfl ?_
  refine y_cV (i := .invokevirtual 91) (len := 3) (r := (0, 154, 11, 474)) (nL := 1) (k := 0) (n := 1) (hs := []) (args := [.inl (some 0)]) (rest := []) (l0 := [some (.inl (some 0))]) (by decide +kernel) (Or.inr (Or.inl ⟨_, rfl⟩)) rfl rfl rfl rfl (Nat.le_of_ble_eq_true rfl) (zO hg1904 (tv0 hg1904) aw0 rfl) rfl (qV_le (by decide) (c_forg (d := 0) hg1904)) (fun h1905 hR1905 => ?_)
  obtain ⟨hg1905, F1905⟩ := hR1905
  refine y_same (i := .aload_n 0) (len := 1) (r := (0, 0, 0, 0)) (pc' := 23) (ls' := [some (.inl (some 0))]) (st' := [.inl (some 0)]) (by decide +kernel) (fun k q => by cases q) rfl ?_
  have hv1906 := (F1904 0 5 (by omega)).trans hv1903
  have hv1907 := (F1905 0 5 (by omega)).trans hv1906
  refine y_get (j := 29) (len := 3) (r := (11, 5, 2, 404)) (by decide +kernel) hg1905 (tv0 hg1905) aw0 rfl rfl hv1907 ?_
  refine y_cI (i := .invokevirtual 94) (len := 3) (r := (0, 111, 9, 478)) (nL := 1) (k := 1) (n := 1) (hs := []) (args := [.inl (some 2)]) (rest := []) (l0 := [some (.inl (some 2))]) (by decide +kernel) (Or.inr (Or.inl ⟨_, rfl⟩)) rfl rfl rfl rfl (Nat.le_of_ble_eq_true rfl) (zO hg1905 (tv2 hg1905) aw1000 rfl) rfl (qI_le (by decide) (c_cnt (d := 0) hg1905 (RC_up rc1904 (fun k j h1 => (F1905 k j (by omega)))))) (fun y1908 qy1908 hRy1908 => ?_)
  obtain ⟨rfl, ey1908⟩ := hRy1908
  refine y_rI (len := 1) (r := (0, 0, 0, 0)) (nL := 1) (k := 1) (n9 := 1) (hs := []) (by decide +kernel) rfl rfl ?_
  exact ⟨_, hg1905, (RC_up rc1904 (fun k j h1 => (F1905 k j (by omega)))), fun k j hC => ((F1905 k j (by omega)).trans ((F1904 k j (by omega)).trans (F1902 k j (by omega)))), by omega⟩
theorem c_undo2 {t : Nat} {τ : List Nat} {h : zh} {cur : bsT} {hs : List bsT} (hg : hG τ h) (rc : RC h cur hs) (r5 : hsl h 0 5 = some (.inl (some 2))) : qI 60 138 [some (.inl (some 0))] h t (fun y h1 => ∃ τ1, hG τ1 h1 ∧ frC h h1 ∧ ((hs = [] ∧ y.toInt = -1 ∧ RC h1 cur hs) ∨ ∃ hs' b, hs = hs' ++ [b] ∧ y.toInt = (hs'.length : Int) ∧ RC h1 b hs')) := by
  refine qI_le (d := 21) (by decide) (qI_of ?_)
  refine y_same (i := .aload_n 0) (len := 1) (r := (0, 0, 0, 0)) (pc' := 1) (ls' := [some (.inl (some 0))]) (st' := [.inl (some 0)]) (by decide +kernel) (fun k q => by cases q) rfl ?_
  refine y_get (j := 36) (len := 3) (r := (11, 6, 2, 405)) (by decide +kernel) hg (tv0 hg) aw0 rfl rfl (g_rU (f := 6) (T2 := 13) hg (tv0 hg) aw0 rfl (by decide)) ?_
  refine y_same (i := .aload_n 0) (len := 1) (r := (0, 0, 0, 0)) (pc' := 5) (ls' := [some (.inl (some 0))]) (st' := [.inl (some 0), .inl (some 13)]) (by decide +kernel) (fun k q => by cases q) rfl ?_
  refine y_get (j := 29) (len := 3) (r := (11, 5, 2, 404)) (by decide +kernel) hg (tv0 hg) aw0 rfl rfl r5 ?_
  refine y_cI (i := .invokevirtual 132) (len := 3) (r := (0, 25, 2, 486)) (nL := 3) (k := 2) (n := 2) (hs := []) (args := [.inl (some 13), .inl (some 2)]) (rest := []) (l0 := [some (.inl (some 13)), some (.inl (some 2)), none]) (by decide +kernel) (Or.inr (Or.inl ⟨_, rfl⟩)) rfl rfl rfl rfl (Nat.le_of_ble_eq_true rfl) (zO hg (tv13 hg) aw13 rfl) rfl (qI_le (by decide) (e_back hg rc)) (fun y1909 h1909 hRy1909 => ?_)
  rcases hRy1909 with ⟨hn1909, hy1909, he1909⟩ | ⟨hs1909, bb1909, eh1909, hy1909, hg1909, rc1909, F1909⟩
  ·
    subst he1909
    refine y_iF (c := .ne) (off := 5) (len := 3) (r := (0, 0, 0, 0)) (by decide +kernel) (acmpF (c := .ne) (by show _ = _; omega)) ?_
    refine y_ic (c := (-1)) (len := 1) (r := (0, 0, 0, 0)) (by decide +kernel) (by decide) (fun y1910 hy1910 => ?_)
    refine y_rI (len := 1) (r := (0, 0, 0, 0)) (nL := 1) (k := 1) (n9 := 1) (hs := []) (by decide +kernel) rfl rfl ?_
    exact ⟨_, hg, fun k j hC => rfl, Or.inl ⟨by assumption, by omega, rc⟩⟩
  ·
    obtain ⟨-, -, -, -, -, -, -, -, ⟨xk1909, hk1909, ek1909⟩, -⟩ := id rc1909
    refine y_iT (c := .ne) (off := 5) (pc' := 16) (len := 3) (r := (0, 0, 0, 0)) (by decide +kernel) (acmpT (c := .ne) (by show ¬ (_ = _); omega)) (by decide +kernel) ?_
    refine y_same (i := .aload_n 0) (len := 1) (r := (0, 0, 0, 0)) (pc' := 17) (ls' := [some (.inl (some 0))]) (st' := [.inl (some 0)]) (by decide +kernel) (fun k q => by cases q) rfl ?_
    refine y_cV (i := .invokevirtual 91) (len := 3) (r := (0, 154, 11, 474)) (nL := 1) (k := 0) (n := 1) (hs := []) (args := [.inl (some 0)]) (rest := []) (l0 := [some (.inl (some 0))]) (by decide +kernel) (Or.inr (Or.inl ⟨_, rfl⟩)) rfl rfl rfl rfl (Nat.le_of_ble_eq_true rfl) (zO hg1909 (tv0 hg1909) aw0 rfl) rfl (qV_le (by decide) (c_forg (d := 0) hg1909)) (fun h1911 hR1911 => ?_)
    obtain ⟨hg1911, F1911⟩ := hR1911
    refine y_same (i := .aload_n 0) (len := 1) (r := (0, 0, 0, 0)) (pc' := 21) (ls' := [some (.inl (some 0))]) (st' := [.inl (some 0)]) (by decide +kernel) (fun k q => by cases q) rfl ?_
    refine y_get (j := 36) (len := 3) (r := (11, 6, 2, 405)) (by decide +kernel) hg1911 (tv0 hg1911) aw0 rfl rfl (g_rU (f := 6) (T2 := 13) hg1911 (tv0 hg1911) aw0 rfl (by decide)) ?_
    have hv1912 := (F1911 13 2 (by omega)).trans hk1909
    refine y_get (j := 136) (len := 3) (r := (2, 2, 0, 20223)) (by decide +kernel) hg1911 (tv13 hg1911) aw13 rfl rfl hv1912 ?_
    refine y_rI (len := 1) (r := (0, 0, 0, 0)) (nL := 1) (k := 1) (n9 := 1) (hs := []) (by decide +kernel) rfl rfl ?_
    exact ⟨_, hg1911, fun k j hC => ((F1911 k j (by omega)).trans (F1909 k j (by omega))), Or.inr ⟨_, _, by assumption, by omega, (RC_up rc1909 (fun k j h1 => (F1911 k j (by omega))))⟩⟩
