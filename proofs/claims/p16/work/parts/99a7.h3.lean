/-! the class's small heaps: which tellings are allowed; the letters -/
theorem ab_tab : ∀ s : Nat, s < 64 → ∀ v : Nat, v < 6 → ((Int32.ofInt (s : Int) &&& Int32.ofInt ((2 ^ v : Nat) : Int)).toInt ≠ 0 ↔ s / 2 ^ v % 2 = 1) := by decide +kernel
theorem ob_tab : ∀ s : Nat, s < 64 → ∀ v : Nat, v < 6 → ∀ w : Nat, w < 6 → ((s ||| 2 ^ v) / 2 ^ w % 2 = 1 ↔ (w = v ∨ s / 2 ^ w % 2 = 1)) := by decide +kernel
theorem own_tk {f : tlT} {l : List it4} {i : Nat} {ik : it4} (hk : l[i]? = some ik) : own f (l.take (i + 1)) = own f (l.take i) ++ (if hsS f ik then [vX_ f ik] else []) := by
  unfold own
  rw [List.take_succ, hk, List.filter_append, List.map_append]
  congr 1
  show (List.filter _ [ik]).map _ = _
  by_cases q : hsS f ik
  · rw [if_pos q, List.filter_cons_of_pos (by exact decide_eq_true q)]
    rfl
  · rw [if_neg q, List.filter_cons_of_neg (by rw [decide_eq_true_eq]; exact q)]
    rfl
theorem own_bad {f : tlT} {l : List it4} {i : Nat} {ik : it4} (hk : l[i]? = some ik) (hs : hsS f ik) (hm : vX_ f ik ∈ 0 :: own f (l.take i)) : ¬ (0 :: own f l).Nodup := by
  have hi := (List.getElem?_eq_some_iff.mp hk).1
  have e : own f l = own f (l.take i) ++ vX_ f ik :: own f (l.drop (i + 1)) := by
    have e1 : l = l.take i ++ (ik :: l.drop (i + 1)) := by
      have e2 : l.drop i = ik :: l.drop (i + 1) := by
        rw [List.drop_eq_getElem_cons hi]
        congr 1
        exact Option.some.inj ((List.getElem?_eq_getElem hi).symm.trans hk)
      rw [← e2, List.take_append_drop]
    unfold own
    rw [show (l.filter (fun i => decide (hsS f i))) = (l.take i ++ (ik :: l.drop (i + 1))).filter (fun i => decide (hsS f i)) by rw [← e1], List.filter_append, List.filter_cons_of_pos (by exact decide_eq_true hs), List.map_append, List.map_cons]
  rw [e]
  intro nd
  rcases List.mem_cons.mp hm with q | q
  · obtain ⟨n1, -⟩ := List.nodup_cons.mp nd
    exact n1 (by rw [← q]; exact List.mem_append_right _ List.mem_cons_self)
  · obtain ⟨-, n2⟩ := List.nodup_cons.mp nd
    obtain ⟨-, -, n3⟩ := List.nodup_append.mp n2
    exact n3 _ q _ List.mem_cons_self rfl
theorem nd_sn {A : List Nat} {x : Nat} (nd : (0 :: A).Nodup) (hx : x ∉ 0 :: A) : (0 :: (A ++ [x])).Nodup := by
  obtain ⟨n1, n2⟩ := List.nodup_cons.mp nd
  refine List.nodup_cons.mpr ⟨fun q => ?_, List.nodup_append.mpr ⟨n2, by simp, fun a ha b hb e => ?_⟩⟩
  · rcases List.mem_append.mp q with q | q
    · exact n1 q
    · exact hx (by rw [← List.mem_singleton.mp q]; exact List.mem_cons_self)
  · rw [List.mem_singleton.mp hb] at e
    exact hx (by rw [← e]; exact List.mem_cons_of_mem _ ha)
theorem al_l {d t S RA IA RB IB : Nat} {τ : List Nat} {h : zh} {l c : List it4} {f : tlT} (hg : hG τ h) (vc : vC_ h f) (hfb : ∀ v, v ≤ 5 → f v ≤ 5) (tS : τ[S]? = some 1001) (pS0 : hsl h S 0 = some (.inl (some RA))) (pS1 : hsl h S 1 = some (.inl (some RB))) (tRA : τ[RA]? = some 1002) (tIA : τ[IA]? = some 1005) (pA : hsl h RA 0 = some (.inl (some IA))) (r : rwC h RA IA l) (ok : ∀ (j : Nat) (i : it4), l[j]? = some i → okI i) (tRB : τ[RB]? = some 1003) (tIB : τ[IB]? = some 1006) (pB : hsl h RB 0 = some (.inl (some IB))) (rB : rwC h RB IB c) (okB : ∀ (j : Nat) (i : it4), c[j]? = some i → okI i) : ∀ (n i : Nat) (xi xo : Int32) (l4 : Option zv) (s : Nat), xi.toInt = (i : Int) → xo = Int32.ofInt (s : Int) → s < 64 → i ≤ l.length → l.length ≤ i + n → (∀ w, w ≤ 5 → (s / 2 ^ w % 2 = 1 ↔ w ∈ 0 :: own f (l.take i))) → (0 :: own f (l.take i)).Nodup → qX (d + 2) 121 20 [some (.inl (some 42)), some (.inl (some S)), some (zi xo), some (zi xi), l4] [] h t (rI (fun y h1 => h = h1 ∧ ((y.toInt = 1 ∧ (0 :: own f l).Nodup) ∨ (y.toInt = 0 ∧ ¬ (0 :: own f l).Nodup))) t) := by
  obtain ⟨xl, hl, el⟩ := r.1
  obtain ⟨x9, e9, l9, u9⟩ := g_int (i := 1) (lo := 0) (hi := 5) hg tRA aw1002 (by decide) rfl
  have e8 := hl.symm.trans e9
  cases e8
  intro n
  induction n with
  | zero =>
    intro i xi xo l4 s hxi hxo hs9 hi hn c1 c2
    refine y_same (i := .iload_n 3) (len := 1) (r := (0, 0, 0, 0)) (pc' := 21) (ls' := [some (.inl (some 42)), some (.inl (some S)), some (zi xo), some (zi xi), l4]) (st' := [zi xi]) (by decide +kernel) (fun k q => by cases q) rfl ?_
    refine y_same (i := .aload_n 1) (len := 1) (r := (0, 0, 0, 0)) (pc' := 22) (ls' := [some (.inl (some 42)), some (.inl (some S)), some (zi xo), some (zi xi), l4]) (st' := [.inl (some S), zi xi]) (by decide +kernel) (fun k q => by cases q) rfl ?_
    refine y_get (j := 112) (len := 3) (r := (8, 0, 2, 20183)) (by decide +kernel) hg tS aw1001 rfl rfl pS0 ?_
    refine y_get (j := 115) (len := 3) (r := (6, 1, 0, 20170)) (by decide +kernel) hg tRA aw1002 rfl rfl hl ?_
    refine y_cT (c := .ge) (off := 55) (pc' := 83) (len := 3) (r := (0, 0, 0, 0)) (by decide +kernel) (acmpT (c := .ge) (by show _ ≤ _; omega)) (by decide +kernel) ?_
    refine y_ic (c := 1) (len := 1) (r := (0, 0, 0, 0)) (by decide +kernel) (by decide) (fun y3201 hy3201 => ?_)
    refine y_rI (len := 1) (r := (0, 0, 0, 0)) (nL := 5) (k := 2) (n9 := 2) (hs := []) (by decide +kernel) rfl (zfit_b (by omega) (by omega)).2 ?_
    rw [List.take_of_length_le (by omega)] at c2
    exact ⟨rfl, Or.inl ⟨by omega, c2⟩⟩
  | succ n ih =>
    intro i xi xo l4 s hxi hxo hs9 hi hn c1 c2
    rcases Nat.lt_or_ge i l.length with q | q
    ·
      obtain ⟨ik, hk⟩ : ∃ ik, l[i]? = some ik := ⟨_, List.getElem?_eq_getElem q⟩
      have okk := ok i ik hk
      have okk2 := okk
      unfold okI at okk2
      refine y_same (i := .iload_n 3) (len := 1) (r := (0, 0, 0, 0)) (pc' := 21) (ls' := [some (.inl (some 42)), some (.inl (some S)), some (zi xo), some (zi xi), l4]) (st' := [zi xi]) (by decide +kernel) (fun k q => by cases q) rfl ?_
      refine y_same (i := .aload_n 1) (len := 1) (r := (0, 0, 0, 0)) (pc' := 22) (ls' := [some (.inl (some 42)), some (.inl (some S)), some (zi xo), some (zi xi), l4]) (st' := [.inl (some S), zi xi]) (by decide +kernel) (fun k q => by cases q) rfl ?_
      refine y_get (j := 112) (len := 3) (r := (8, 0, 2, 20183)) (by decide +kernel) hg tS aw1001 rfl rfl pS0 ?_
      refine y_get (j := 115) (len := 3) (r := (6, 1, 0, 20170)) (by decide +kernel) hg tRA aw1002 rfl rfl hl ?_
      refine y_cF (c := .ge) (off := 55) (len := 3) (r := (0, 0, 0, 0)) (by decide +kernel) (acmpF (c := .ge) (by show _ < _; omega)) ?_
      refine y_same (i := .aload_n 0) (len := 1) (r := (0, 0, 0, 0)) (pc' := 32) (ls' := [some (.inl (some 42)), some (.inl (some S)), some (zi xo), some (zi xi), l4]) (st' := [.inl (some 42)]) (by decide +kernel) (fun k q => by cases q) rfl ?_
      refine y_same (i := .aload_n 1) (len := 1) (r := (0, 0, 0, 0)) (pc' := 33) (ls' := [some (.inl (some 42)), some (.inl (some S)), some (zi xo), some (zi xi), l4]) (st' := [.inl (some S), .inl (some 42)]) (by decide +kernel) (fun k q => by cases q) rfl ?_
      refine y_get (j := 112) (len := 3) (r := (8, 0, 2, 20183)) (by decide +kernel) hg tS aw1001 rfl rfl pS0 ?_
      refine y_same (i := .iload_n 3) (len := 1) (r := (0, 0, 0, 0)) (pc' := 37) (ls' := [some (.inl (some 42)), some (.inl (some S)), some (zi xo), some (zi xi), l4]) (st' := [zi xi, .inl (some RA), .inl (some 42)]) (by decide +kernel) (fun k q => by cases q) rfl ?_
      refine y_cI (i := .invokevirtual 120) (len := 3) (r := (0, 122, 10, 1215)) (nL := 3) (k := 2) (n := 3) (hs := []) (args := [.inl (some 42), .inl (some RA), zi xi]) (rest := []) (l0 := [some (.inl (some 42)), some (.inl (some RA)), some (zi xi)]) (by decide +kernel) (Or.inr (Or.inl ⟨_, rfl⟩)) rfl rfl rfl rfl (Nat.le_of_ble_eq_true rfl) (zO hg (tv42 hg) aw42 rfl) rfl (qI_le (by omega) (e_hs (d := 0) (k := i) hg vc tRA tIA pA r ok (by omega) hk)) (fun y3189 qy3189 hRy3189 => ?_)
      obtain ⟨rfl, hDy3189⟩ := hRy3189
      rcases hDy3189 with ⟨hyy3189, hsy3189⟩ | ⟨hyy3189, hsy3189⟩
      ·
        refine y_iF (c := .eq) (off := 37) (len := 3) (r := (0, 0, 0, 0)) (by decide +kernel) (acmpF (c := .eq) (by show ¬ (_ = _); omega)) ?_
        refine y_ic (c := 1) (len := 1) (r := (0, 0, 0, 0)) (by decide +kernel) (by decide) (fun y3190 hy3190 => ?_)
        refine y_same (i := .aload_n 0) (len := 1) (r := (0, 0, 0, 0)) (pc' := 45) (ls' := [some (.inl (some 42)), some (.inl (some S)), some (zi xo), some (zi xi), l4]) (st' := [.inl (some 42), zi y3190]) (by decide +kernel) (fun k q => by cases q) rfl ?_
        refine y_get (j := 12) (len := 3) (r := (10, 0, 2, 359)) (by decide +kernel) hg (tv42 hg) aw42 rfl rfl (g_rU (f := 0) (T2 := 43) hg (tv42 hg) aw42 rfl (by decide)) ?_
        refine y_same (i := .aload_n 1) (len := 1) (r := (0, 0, 0, 0)) (pc' := 49) (ls' := [some (.inl (some 42)), some (.inl (some S)), some (zi xo), some (zi xi), l4]) (st' := [.inl (some S), .inl (some 43), zi y3190]) (by decide +kernel) (fun k q => by cases q) rfl ?_
        refine y_get (j := 112) (len := 3) (r := (8, 0, 2, 20183)) (by decide +kernel) hg tS aw1001 rfl rfl pS0 ?_
        refine y_same (i := .iload_n 3) (len := 1) (r := (0, 0, 0, 0)) (pc' := 53) (ls' := [some (.inl (some 42)), some (.inl (some S)), some (zi xo), some (zi xi), l4]) (st' := [zi xi, .inl (some RA), .inl (some 43), zi y3190]) (by decide +kernel) (fun k q => by cases q) rfl ?_
        refine y_ic (c := 1) (len := 1) (r := (0, 0, 0, 0)) (by decide +kernel) (by decide) (fun y3191 hy3191 => ?_)
        refine y_cI (i := .invokevirtual 124) (len := 3) (r := (0, 64, 6, 1219)) (nL := 3) (k := 1) (n := 3) (hs := []) (args := [.inl (some RA), zi xi, zi y3191]) (rest := [.inl (some 43), zi y3190]) (l0 := [some (.inl (some RA)), some (zi xi), some (zi y3191)]) (by decide +kernel) (Or.inr (Or.inl ⟨_, rfl⟩)) rfl rfl rfl rfl (Nat.le_of_ble_eq_true rfl) (zO hg tRA aw1002 rfl) rfl (qI_le (by omega) (e_tell5 (d := 0) (RA := RA) (IA := IA) (w := 1) hg tRA tIA pA r (by omega) hk okk (by omega) (by omega))) (fun y3192 qy3192 hRy3192 => ?_)
        obtain ⟨rfl, ey3192⟩ := hRy3192
        have ey3192 : y3192.toInt = ik.2.1 := ey3192
        refine y_cI (i := .invokevirtual 89) (len := 3) (r := (0, 11, 1, 1220)) (nL := 2) (k := 1) (n := 2) (hs := []) (args := [.inl (some 43), zi y3192]) (rest := [zi y3190]) (l0 := [some (.inl (some 43)), some (zi y3192)]) (by decide +kernel) (Or.inr (Or.inl ⟨_, rfl⟩)) rfl rfl rfl rfl (Nat.le_of_ble_eq_true rfl) (zO hg (tv43 hg) aw43 rfl) rfl (qI_le (by omega) (e_val (d := 0) (v := ik.2.1.toNat) hg vc (by omega) (by omega))) (fun y3193 qy3193 hRy3193 => ?_)
        obtain ⟨rfl, ey3193⟩ := hRy3193
        refine y_bp (i := .ishl) (f := fun x y => x <<< (y &&& 31)) (len := 1) (r := (0, 0, 0, 0)) (by decide +kernel) rfl rfl (fun y3194 hy3194 => ?_)
        have hy3194 : y3194 = y3190 <<< (y3193 &&& 31) := hy3194
        refine y_same (i := .istore 4) (len := 2) (r := (0, 0, 0, 0)) (pc' := 63) (ls' := [some (.inl (some 42)), some (.inl (some S)), some (zi xo), some (zi xi), some (zi y3194)]) (st' := []) (by decide +kernel) (fun k q => by cases q) rfl ?_
        refine y_same (i := .iload_n 2) (len := 1) (r := (0, 0, 0, 0)) (pc' := 64) (ls' := [some (.inl (some 42)), some (.inl (some S)), some (zi xo), some (zi xi), some (zi y3194)]) (st' := [zi xo]) (by decide +kernel) (fun k q => by cases q) rfl ?_
        refine y_same (i := .iload 4) (len := 2) (r := (0, 0, 0, 0)) (pc' := 66) (ls' := [some (.inl (some 42)), some (.inl (some S)), some (zi xo), some (zi xi), some (zi y3194)]) (st' := [zi y3194, zi xo]) (by decide +kernel) (fun k q => by cases q) rfl ?_
        refine y_bp (i := .iand) (f := fun x y => x &&& y) (len := 1) (r := (0, 0, 0, 0)) (by decide +kernel) rfl rfl (fun y3195 hy3195 => ?_)
        have hy3195 : y3195 = xo &&& y3194 := hy3195
        rcases Decidable.em (y3195.toInt = 0) with q3196 | q3196
        ·
          refine y_iT (c := .eq) (off := 5) (pc' := 72) (len := 3) (r := (0, 0, 0, 0)) (by decide +kernel) (acmpT (c := .eq) (by show _ = _; omega)) (by decide +kernel) ?_
          refine y_same (i := .iload_n 2) (len := 1) (r := (0, 0, 0, 0)) (pc' := 73) (ls' := [some (.inl (some 42)), some (.inl (some S)), some (zi xo), some (zi xi), some (zi y3194)]) (st' := [zi xo]) (by decide +kernel) (fun k q => by cases q) rfl ?_
          refine y_same (i := .iload 4) (len := 2) (r := (0, 0, 0, 0)) (pc' := 75) (ls' := [some (.inl (some 42)), some (.inl (some S)), some (zi xo), some (zi xi), some (zi y3194)]) (st' := [zi y3194, zi xo]) (by decide +kernel) (fun k q => by cases q) rfl ?_
          refine y_bp (i := .ior) (f := fun x y => x ||| y) (len := 1) (r := (0, 0, 0, 0)) (by decide +kernel) rfl rfl (fun y3197 hy3197 => ?_)
          have hy3197 : y3197 = xo ||| y3194 := hy3197
          refine y_same (i := .istore_n 2) (len := 1) (r := (0, 0, 0, 0)) (pc' := 77) (ls' := [some (.inl (some 42)), some (.inl (some S)), some (zi y3197), some (zi xi), some (zi y3194)]) (st' := []) (by decide +kernel) (fun k q => by cases q) rfl ?_
          refine y_inc (j := 3) (a := xi) (c := 1) (ls' := fun v => [some (.inl (some 42)), some (.inl (some S)), some (zi y3197), some v, some (zi y3194)]) (len := 3) (r := (0, 0, 0, 0)) (by decide +kernel) rfl (fun _ => rfl) (by decide) (by omega) (by omega) (fun y3198 hy3198 => ?_)
          show qX (d + 2) 121 80 [some (.inl (some 42)), some (.inl (some S)), some (zi y3197), some (zi y3198), some (zi y3194)] [] h t _
          refine y_goto (off := (-60)) (pc' := 20) (len := 3) (r := (0, 0, 0, 0)) (by decide +kernel) (by decide +kernel) ?_
          have sv := shl_v (c := y3190) hy3190 ey3193 (by omega) (by have := hfb ik.2.1.toNat (by omega); omega)
          rw [← hy3194] at sv
          have tb := ab_tab s hs9 (f ik.2.1.toNat) (by have := hfb ik.2.1.toNat (by omega); omega)
          rw [Int.toNat_natCast] at sv
          rw [hy3195, hxo, sv] at q3196
          have nb : vX_ f ik ∉ 0 :: own f (l.take i) := fun q8 => absurd ((c1 _ (hfb _ (by omega))).mpr q8) (fun q7 => by have := tb.mpr q7; omega)
          have o3 := or_v hxo sv hs9 (p64 _ (by have := hfb ik.2.1.toNat (by omega); omega))
          rw [← hy3197] at o3
          have ot := own_tk (f := f) hk
          rw [if_pos hsy3189] at ot
          refine ih (i + 1) y3198 y3197 _ _ (by omega) o3 (or64 hs9 (p64 _ (by have := hfb ik.2.1.toNat (by omega); omega))) (by omega) (by omega) (fun w hw => ?_) (by rw [ot]; exact nd_sn c2 nb)
          rw [ob_tab s hs9 _ (by have := hfb ik.2.1.toNat (by omega); omega) w (by omega), c1 w hw, ot]
          show (w = vX_ f ik ∨ _) ↔ _
          simp only [List.mem_cons, List.mem_append, List.not_mem_nil, or_false]
          constructor
          · rintro (q9 | q9 | q9)
            · exact Or.inr (Or.inr q9)
            · exact Or.inl q9
            · exact Or.inr (Or.inl q9)
          · rintro (q9 | q9 | q9)
            · exact Or.inr (Or.inl q9)
            · exact Or.inr (Or.inr q9)
            · exact Or.inl q9
        ·
          refine y_iF (c := .eq) (off := 5) (len := 3) (r := (0, 0, 0, 0)) (by decide +kernel) (acmpF (c := .eq) (by show ¬ (_ = _); omega)) ?_
          refine y_ic (c := 0) (len := 1) (r := (0, 0, 0, 0)) (by decide +kernel) (by decide) (fun y3199 hy3199 => ?_)
          refine y_rI (len := 1) (r := (0, 0, 0, 0)) (nL := 5) (k := 2) (n9 := 2) (hs := []) (by decide +kernel) rfl (zfit_b (by omega) (by omega)).2 ?_
          have sv := shl_v (c := y3190) hy3190 ey3193 (by omega) (by have := hfb ik.2.1.toNat (by omega); omega)
          rw [← hy3194] at sv
          have tb := ab_tab s hs9 (f ik.2.1.toNat) (by have := hfb ik.2.1.toNat (by omega); omega)
          rw [Int.toNat_natCast] at sv
          rw [hy3195, hxo, sv] at q3196
          refine ⟨rfl, Or.inr ⟨by omega, own_bad hk hsy3189 ((c1 _ (hfb _ (by omega))).mp (tb.mp (by omega)))⟩⟩
      ·
        refine y_iT (c := .eq) (off := 37) (pc' := 77) (len := 3) (r := (0, 0, 0, 0)) (by decide +kernel) (acmpT (c := .eq) (by show _ = _; omega)) (by decide +kernel) ?_
        refine y_inc (j := 3) (a := xi) (c := 1) (ls' := fun v => [some (.inl (some 42)), some (.inl (some S)), some (zi xo), some v, l4]) (len := 3) (r := (0, 0, 0, 0)) (by decide +kernel) rfl (fun _ => rfl) (by decide) (by omega) (by omega) (fun y3200 hy3200 => ?_)
        show qX (d + 2) 121 80 [some (.inl (some 42)), some (.inl (some S)), some (zi xo), some (zi y3200), l4] [] h t _
        refine y_goto (off := (-60)) (pc' := 20) (len := 3) (r := (0, 0, 0, 0)) (by decide +kernel) (by decide +kernel) ?_
        have ot := own_tk (f := f) hk
        rw [if_neg hsy3189, List.append_nil] at ot
        exact ih (i + 1) y3200 xo _ _ (by omega) hxo hs9 (by omega) (by omega) (by rw [ot]; exact c1) (by rw [ot]; exact c2)
    ·
      refine y_same (i := .iload_n 3) (len := 1) (r := (0, 0, 0, 0)) (pc' := 21) (ls' := [some (.inl (some 42)), some (.inl (some S)), some (zi xo), some (zi xi), l4]) (st' := [zi xi]) (by decide +kernel) (fun k q => by cases q) rfl ?_
      refine y_same (i := .aload_n 1) (len := 1) (r := (0, 0, 0, 0)) (pc' := 22) (ls' := [some (.inl (some 42)), some (.inl (some S)), some (zi xo), some (zi xi), l4]) (st' := [.inl (some S), zi xi]) (by decide +kernel) (fun k q => by cases q) rfl ?_
      refine y_get (j := 112) (len := 3) (r := (8, 0, 2, 20183)) (by decide +kernel) hg tS aw1001 rfl rfl pS0 ?_
      refine y_get (j := 115) (len := 3) (r := (6, 1, 0, 20170)) (by decide +kernel) hg tRA aw1002 rfl rfl hl ?_
      refine y_cT (c := .ge) (off := 55) (pc' := 83) (len := 3) (r := (0, 0, 0, 0)) (by decide +kernel) (acmpT (c := .ge) (by show _ ≤ _; omega)) (by decide +kernel) ?_
      refine y_ic (c := 1) (len := 1) (r := (0, 0, 0, 0)) (by decide +kernel) (by decide) (fun y3202 hy3202 => ?_)
      refine y_rI (len := 1) (r := (0, 0, 0, 0)) (nL := 5) (k := 2) (n9 := 2) (hs := []) (by decide +kernel) rfl (zfit_b (by omega) (by omega)).2 ?_
      rw [List.take_of_length_le (by omega)] at c2
      exact ⟨rfl, Or.inl ⟨by omega, c2⟩⟩
theorem e_al {d t S RA IA RB IB : Nat} {τ : List Nat} {h : zh} {l c : List it4} {f : tlT} (hg : hG τ h) (vc : vC_ h f) (hfb : ∀ v, v ≤ 5 → f v ≤ 5) (tS : τ[S]? = some 1001) (pS0 : hsl h S 0 = some (.inl (some RA))) (pS1 : hsl h S 1 = some (.inl (some RB))) (tRA : τ[RA]? = some 1002) (tIA : τ[IA]? = some 1005) (pA : hsl h RA 0 = some (.inl (some IA))) (r : rwC h RA IA l) (ok : ∀ (j : Nat) (i : it4), l[j]? = some i → okI i) (tRB : τ[RB]? = some 1003) (tIB : τ[IB]? = some 1006) (pB : hsl h RB 0 = some (.inl (some IB))) (rB : rwC h RB IB c) (okB : ∀ (j : Nat) (i : it4), c[j]? = some i → okI i) : qI (d + 3) 121 [some (.inl (some 42)), some (.inl (some S)), none, none, none] h t (fun y h1 => h = h1 ∧ ((y.toInt = 1 ∧ (arS f c ∧ (0 :: own f l).Nodup)) ∨ (y.toInt = 0 ∧ ¬ (arS f c ∧ (0 :: own f l).Nodup)))) := by
  refine qI_of ?_
  refine y_same (i := .aload_n 0) (len := 1) (r := (0, 0, 0, 0)) (pc' := 1) (ls' := [some (.inl (some 42)), some (.inl (some S)), none, none, none]) (st' := [.inl (some 42)]) (by decide +kernel) (fun k q => by cases q) rfl ?_
  refine y_get (j := 12) (len := 3) (r := (10, 0, 2, 359)) (by decide +kernel) hg (tv42 hg) aw42 rfl rfl (g_rU (f := 0) (T2 := 43) hg (tv42 hg) aw42 rfl (by decide)) ?_
  refine y_same (i := .aload_n 1) (len := 1) (r := (0, 0, 0, 0)) (pc' := 5) (ls' := [some (.inl (some 42)), some (.inl (some S)), none, none, none]) (st' := [.inl (some S), .inl (some 43)]) (by decide +kernel) (fun k q => by cases q) rfl ?_
  refine y_get (j := 102) (len := 3) (r := (8, 1, 2, 20189)) (by decide +kernel) hg tS aw1001 rfl rfl pS1 ?_
  refine y_cI (i := .invokevirtual 108) (len := 3) (r := (0, 17, 1, 1206)) (nL := 4) (k := 2) (n := 2) (hs := []) (args := [.inl (some 43), .inl (some RB)]) (rest := []) (l0 := [some (.inl (some 43)), some (.inl (some RB)), none, none]) (by decide +kernel) (Or.inr (Or.inl ⟨_, rfl⟩)) rfl rfl rfl rfl (Nat.le_of_ble_eq_true rfl) (zO hg (tv43 hg) aw43 rfl) rfl (qI_le (by omega) (e_so6 (d := 0) (RA := RB) (IA := IB) (l := c) hg vc tRB tIB pB rB okB)) (fun y3203 qy3203 hRy3203 => ?_)
  obtain ⟨rfl, hDy3203⟩ := hRy3203
  rcases hDy3203 with ⟨hyy3203, soy3203⟩ | ⟨hyy3203, soy3203⟩
  ·
    refine y_iT (c := .ne) (off := 5) (pc' := 16) (len := 3) (r := (0, 0, 0, 0)) (by decide +kernel) (acmpT (c := .ne) (by show ¬ (_ = _); omega)) (by decide +kernel) ?_
    refine y_ic (c := 1) (len := 1) (r := (0, 0, 0, 0)) (by decide +kernel) (by decide) (fun y3204 hy3204 => ?_)
    refine y_same (i := .istore_n 2) (len := 1) (r := (0, 0, 0, 0)) (pc' := 18) (ls' := [some (.inl (some 42)), some (.inl (some S)), some (zi y3204), none, none]) (st' := []) (by decide +kernel) (fun k q => by cases q) rfl ?_
    refine y_ic (c := 0) (len := 1) (r := (0, 0, 0, 0)) (by decide +kernel) (by decide) (fun y3205 hy3205 => ?_)
    refine y_same (i := .istore_n 3) (len := 1) (r := (0, 0, 0, 0)) (pc' := 20) (ls' := [some (.inl (some 42)), some (.inl (some S)), some (zi y3204), some (zi y3205), none]) (st' := []) (by decide +kernel) (fun k q => by cases q) rfl ?_
    refine qX_I (al_l hg vc hfb tS pS0 pS1 tRA tIA pA r ok tRB tIB pB rB okB l.length 0 y3205 y3204 _ 1 (by omega) (i32_of (by omega)) (by omega) (by omega) (by omega) (fun w hw => ?_) (by simp [own])) (fun y h1 hR => ⟨hR.1, ?_⟩)
    · rcases (show w = 0 ∨ w = 1 ∨ w = 2 ∨ w = 3 ∨ w = 4 ∨ w = 5 by omega) with e | e | e | e | e | e <;> subst e <;> simp [own]
    · rcases hR.2 with ⟨q1, q2⟩ | ⟨q1, q2⟩
      · exact Or.inl ⟨q1, soy3203, q2⟩
      · exact Or.inr ⟨q1, fun q3 => q2 q3.2⟩
  ·
    refine y_iF (c := .ne) (off := 5) (len := 3) (r := (0, 0, 0, 0)) (by decide +kernel) (acmpF (c := .ne) (by show _ = _; omega)) ?_
    refine y_ic (c := 0) (len := 1) (r := (0, 0, 0, 0)) (by decide +kernel) (by decide) (fun y3206 hy3206 => ?_)
    refine y_rI (len := 1) (r := (0, 0, 0, 0)) (nL := 5) (k := 2) (n9 := 2) (hs := []) (by decide +kernel) rfl (zfit_b (by omega) (by omega)).2 ?_
    exact ⟨rfl, Or.inr ⟨by omega, fun q3 => soy3203 q3.1⟩⟩
