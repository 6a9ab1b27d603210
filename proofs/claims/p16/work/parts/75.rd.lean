/-! the class's reader: words, what must be, variables, parts that come -/
theorem sgn_sk {b : Nat → Int} {n a : Nat} {w : List Int} (ha : a ≤ n) : sgn b n w (sk b n a) = sgn b n w a := by
  unfold sgn
  rw [sk_idem ha]
theorem wrd_c {b : Nat → Int} {n a : Nat} {w : List Int} (hs : ∀ c ∈ w, sml c) (h : cl b n (sk b n a) ≠ w.length) : wrd b n w a = none := by
  cases hm : mt b n w (sk b n a) with
  | false => exact wrd_n1 hm
  | true =>
    rcases sml_dec (bt b n (sk b n a + w.length)) with q | q
    · exact wrd_n2 q
    · exact absurd ((word_iff hs hm).mpr q) h
theorem wrd_s {b : Nat → Int} {n a a' : Nat} {w : List Int} (hs : ∀ c ∈ w, sml c) (h : cl b n (sk b n a) = w.length) (e : sgn b n w a = some a') : wrd b n w a = some a' := by
  unfold sgn at e
  split at e
  · rename_i hm
    cases e
    exact wrd_y hm ((word_iff hs hm).mp h)
  · cases e
theorem wrd_o {b : Nat → Int} {n a : Nat} {w : List Int} (e : sgn b n w a = none) : wrd b n w a = none := by
  unfold sgn at e
  split at e
  · cases e
  · rename_i hm
    exact wrd_n1 (by simpa using hm)
theorem y_aln {d mi pc : Nat} {ls : List (Option zv)} {h : zh} {t : Nat} {P : zo × zh × Nat → Prop} {len : Nat} {r : zr} {τ : List Nat} {A T tg L : Nat} {rs : List (Nat × qs)} {st' : List zv} (hf : zfetch mi pc = some (.arraylength, len, r)) (hg : hG τ h) (hA : τ[A]? = some T) (hT : atyp T = some (.inl (tg, L, rs))) (hL : L < 100000) (k : ∀ y : Int32, y.toInt = (L : Int) → qX d mi (pc + 1) ls (zi y :: st') h t P) : qX d mi pc ls (.inl (some A) :: st') h t P := by
  obtain ⟨fs, hc, hl⟩ := g_arr hg hA hT
  have hlt := g_lt hg hA
  have e : (Int32.ofNat fs.length).toInt = (L : Int) := by
    rw [hl]
    exact Int32.toInt_ofNat_of_lt (by omega)
  refine y_same hf (fun k q => by cases q) ?_ (k _ e)
  show zlenH none pc ls (.inl (some A) :: st') h = _
  unfold zlenH
  have hz : Nat.beq A 1000000 = false := by
    cases hb : Nat.beq A 1000000 with
    | false => rfl
    | true =>
      have := Nat.eq_of_beq_eq_true hb
      omega
  simp only [hz, cond_false, zlk_no (show A < 3000000 by omega), zarr_at hc, frcI_eq]
theorem sml_wEmp : ∀ c ∈ wEmp, sml c := by
  unfold sml wEmp
  intro c hc
  simp only [List.mem_cons, List.not_mem_nil, or_false] at hc
  omega
theorem e_word0 {t n a : Nat} {b : Nat → Int} {τ : List Nat} {h : zh} (hg : hG τ h) (rd : rdC h n a b) (han : a ≤ n) : qI 9 58 [some (.inl (some 15)), some (.inl (some 2000000))] h t (fun y h1 => ∃ τ1, oF (fun k j => k ≠ 15 ∨ j ≠ 3) τ h τ1 h1 ∧ ((∃ a', wrd b n wEmp a = some a' ∧ a' ≤ n ∧ y.toInt = 1 ∧ rdC h1 n a' b) ∨ (wrd b n wEmp a = none ∧ y.toInt = 0 ∧ rdC h1 n (sk b n a) b))) := by
  obtain ⟨⟨xn, hn, en⟩, ⟨xa, ha, ea⟩, hb, hn2⟩ := id rd
  refine qI_of ?_
  refine y_same (i := .aload_n 0) (len := 1) (r := (0, 0, 0, 0)) (pc' := 1) (ls' := [some (.inl (some 15)), some (.inl (some 2000000))]) (st' := [.inl (some 15)]) (by decide +kernel) (fun k q => by cases q) rfl ?_
  refine y_cV (i := .invokevirtual 89) (len := 3) (r := (0, 60, 5, 947)) (nL := 1) (k := 0) (n := 1) (hs := []) (args := [.inl (some 15)]) (rest := []) (l0 := [some (.inl (some 15))]) (by decide +kernel) (Or.inr (Or.inl ⟨_, rfl⟩)) rfl rfl rfl rfl (Nat.le_of_ble_eq_true rfl) (zO hg (tv15 hg) aw15 rfl) rfl (qV_le (by decide) (e_skip hg rd (by omega))) (fun h302 hR302 => ?_)
  obtain ⟨τ302, O302, rd302⟩ := hR302
  have sl302 := sk_le (b := b) (n := n) (a := a) (by omega)
  obtain ⟨⟨xn302, hn302, en302⟩, ⟨xa302, ha302, ea302⟩, hb302, -⟩ := id rd302
  refine y_same (i := .aload_n 0) (len := 1) (r := (0, 0, 0, 0)) (pc' := 5) (ls' := [some (.inl (some 15)), some (.inl (some 2000000))]) (st' := [.inl (some 15)]) (by decide +kernel) (fun k q => by cases q) rfl ?_
  refine y_cI (i := .invokevirtual 155) (len := 3) (r := (0, 59, 5, 951)) (nL := 2) (k := 1) (n := 1) (hs := []) (args := [.inl (some 15)]) (rest := []) (l0 := [some (.inl (some 15)), none]) (by decide +kernel) (Or.inr (Or.inl ⟨_, rfl⟩)) rfl rfl rfl rfl (Nat.le_of_ble_eq_true rfl) (zO O302.2.1 (tv15 O302.2.1) aw15 rfl) rfl (qI_le (by decide) (e_count O302.2.1 rd302 (by omega))) (fun y303 qy303 hRy303 => ?_)
  obtain ⟨rfl, hy303⟩ := hRy303
  have cly303 := cl_le (b := b) (n := n) (a := (sk b n a))
  refine y_same (i := .aload_n 1) (len := 1) (r := (0, 0, 0, 0)) (pc' := 9) (ls' := [some (.inl (some 15)), some (.inl (some 2000000))]) (st' := [.inl (some 2000000), zi y303]) (by decide +kernel) (fun k q => by cases q) rfl ?_
  refine y_cI (i := .invokevirtual 158) (len := 3) (r := (0, 268, 50, 955)) (nL := 1) (k := 1) (n := 1) (hs := []) (args := [.inl (some 2000000)]) (rest := [zi y303]) (l0 := [some (.inl (some 2000000))]) (by decide +kernel) (Or.inr (Or.inl ⟨_, rfl⟩)) rfl rfl rfl rfl (Nat.le_of_ble_eq_true rfl) rfl rfl (qI_le (by decide) tln0) (fun y304 qy304 hRy304 => ?_)
  obtain ⟨rfl, hy304⟩ := hRy304
  rcases Decidable.em (y303.toInt ≠ y304.toInt) with q305 | q305
  ·
    refine y_cT (c := .ne) (off := 15) (pc' := 27) (len := 3) (r := (0, 0, 0, 0)) (by decide +kernel) (acmpT (c := .ne) (by show ¬ (_ = _); omega)) (by decide +kernel) ?_
    refine y_ic (c := 0) (len := 1) (r := (0, 0, 0, 0)) (by decide +kernel) (by decide) (fun y306 hy306 => ?_)
    refine y_rI (len := 1) (r := (0, 0, 0, 0)) (nL := 2) (k := 2) (n9 := 2) (hs := []) (by decide +kernel) rfl (zfit_b (by omega) (by omega)).2 ?_
    exact ⟨_, ⟨O302.1, O302.2.1, fun k T j hk (hC : k ≠ 15 ∨ j ≠ 3) => (O302.2.2 k T j hk (show k ≠ 15 ∨ j ≠ 3 by omega))⟩, Or.inr ⟨wrd_c (w := wEmp) sml_wEmp (by show (_ : Nat) ≠ 3; omega), by omega, rd302⟩⟩
  ·
    refine y_cF (c := .ne) (off := 15) (len := 3) (r := (0, 0, 0, 0)) (by decide +kernel) (acmpF (c := .ne) (by show _ = _; omega)) ?_
    refine y_same (i := .aload_n 0) (len := 1) (r := (0, 0, 0, 0)) (pc' := 16) (ls' := [some (.inl (some 15)), some (.inl (some 2000000))]) (st' := [.inl (some 15)]) (by decide +kernel) (fun k q => by cases q) rfl ?_
    refine y_same (i := .aload_n 1) (len := 1) (r := (0, 0, 0, 0)) (pc' := 17) (ls' := [some (.inl (some 15)), some (.inl (some 2000000))]) (st' := [.inl (some 2000000), .inl (some 15)]) (by decide +kernel) (fun k q => by cases q) rfl ?_
    refine y_cI (i := .invokevirtual 86) (len := 3) (r := (0, 57, 5, 965)) (nL := 4) (k := 2) (n := 2) (hs := []) (args := [.inl (some 15), .inl (some 2000000)]) (rest := []) (l0 := [some (.inl (some 15)), some (.inl (some 2000000)), none, none]) (by decide +kernel) (Or.inr (Or.inl ⟨_, rfl⟩)) rfl rfl rfl rfl (Nat.le_of_ble_eq_true rfl) (zO O302.2.1 (tv15 O302.2.1) aw15 rfl) rfl (qI_le (by decide) (e_sign0 O302.2.1 rd302 (by omega))) (fun y307 h307 hRy307 => ?_)
    obtain ⟨τ307, O307, hD307⟩ := hRy307
    rcases hD307 with ⟨a307, e307, le307, y307, r307⟩ | ⟨e307, y307, r307⟩
    ·
      obtain ⟨⟨xn307y, hn307y, en307y⟩, ⟨xa307y, ha307y, ea307y⟩, hb307y, -⟩ := id r307
      refine y_iF (c := .eq) (off := 7) (len := 3) (r := (0, 0, 0, 0)) (by decide +kernel) (acmpF (c := .eq) (by show ¬ (_ = _); omega)) ?_
      refine y_ic (c := 1) (len := 1) (r := (0, 0, 0, 0)) (by decide +kernel) (by decide) (fun y308 hy308 => ?_)
      refine y_goto (off := 4) (pc' := 28) (len := 3) (r := (0, 0, 0, 0)) (by decide +kernel) (by decide +kernel) ?_
      refine y_rI (len := 1) (r := (0, 0, 0, 0)) (nL := 2) (k := 2) (n9 := 2) (hs := []) (by decide +kernel) rfl (zfit_b (by omega) (by omega)).2 ?_
      rw [sgn_sk (by omega)] at e307
      exact ⟨_, ⟨(aup_trans O302.1 O307.1), O307.2.1, fun k T j hk (hC : k ≠ 15 ∨ j ≠ 3) => ((O307.2.2 k T j (O302.1 _ _ hk) (show k ≠ 15 ∨ j ≠ 3 by omega)).trans (O302.2.2 k T j hk (show k ≠ 15 ∨ j ≠ 3 by omega)))⟩, Or.inl ⟨a307, wrd_s (w := wEmp) sml_wEmp (by show (_ : Nat) = 3; omega) e307, by omega, by omega, r307⟩⟩
    ·
      have sl307 := sk_le (b := b) (n := n) (a := (sk b n a)) (by omega)
      obtain ⟨⟨xn307n, hn307n, en307n⟩, ⟨xa307n, ha307n, ea307n⟩, hb307n, -⟩ := id r307
      refine y_iT (c := .eq) (off := 7) (pc' := 27) (len := 3) (r := (0, 0, 0, 0)) (by decide +kernel) (acmpT (c := .eq) (by show _ = _; omega)) (by decide +kernel) ?_
      refine y_ic (c := 0) (len := 1) (r := (0, 0, 0, 0)) (by decide +kernel) (by decide) (fun y309 hy309 => ?_)
      refine y_rI (len := 1) (r := (0, 0, 0, 0)) (nL := 2) (k := 2) (n9 := 2) (hs := []) (by decide +kernel) rfl (zfit_b (by omega) (by omega)).2 ?_
      rw [sgn_sk (by omega)] at e307
      have rz := r307
      rw [sk_idem (by omega)] at rz
      exact ⟨_, ⟨(aup_trans O302.1 O307.1), O307.2.1, fun k T j hk (hC : k ≠ 15 ∨ j ≠ 3) => ((O307.2.2 k T j (O302.1 _ _ hk) (show k ≠ 15 ∨ j ≠ 3 by omega)).trans (O302.2.2 k T j hk (show k ≠ 15 ∨ j ≠ 3 by omega)))⟩, Or.inr ⟨wrd_o (w := wEmp) e307, by omega, rz⟩⟩
theorem sml_wLs : ∀ c ∈ wLs, sml c := by
  unfold sml wLs
  intro c hc
  simp only [List.mem_cons, List.not_mem_nil, or_false] at hc
  omega
theorem e_word1 {t n a : Nat} {b : Nat → Int} {τ : List Nat} {h : zh} (hg : hG τ h) (rd : rdC h n a b) (han : a ≤ n) : qI 9 58 [some (.inl (some 15)), some (.inl (some 2000001))] h t (fun y h1 => ∃ τ1, oF (fun k j => k ≠ 15 ∨ j ≠ 3) τ h τ1 h1 ∧ ((∃ a', wrd b n wLs a = some a' ∧ a' ≤ n ∧ y.toInt = 1 ∧ rdC h1 n a' b) ∨ (wrd b n wLs a = none ∧ y.toInt = 0 ∧ rdC h1 n (sk b n a) b))) := by
  obtain ⟨⟨xn, hn, en⟩, ⟨xa, ha, ea⟩, hb, hn2⟩ := id rd
  refine qI_of ?_
  refine y_same (i := .aload_n 0) (len := 1) (r := (0, 0, 0, 0)) (pc' := 1) (ls' := [some (.inl (some 15)), some (.inl (some 2000001))]) (st' := [.inl (some 15)]) (by decide +kernel) (fun k q => by cases q) rfl ?_
  refine y_cV (i := .invokevirtual 89) (len := 3) (r := (0, 60, 5, 947)) (nL := 1) (k := 0) (n := 1) (hs := []) (args := [.inl (some 15)]) (rest := []) (l0 := [some (.inl (some 15))]) (by decide +kernel) (Or.inr (Or.inl ⟨_, rfl⟩)) rfl rfl rfl rfl (Nat.le_of_ble_eq_true rfl) (zO hg (tv15 hg) aw15 rfl) rfl (qV_le (by decide) (e_skip hg rd (by omega))) (fun h310 hR310 => ?_)
  obtain ⟨τ310, O310, rd310⟩ := hR310
  have sl310 := sk_le (b := b) (n := n) (a := a) (by omega)
  obtain ⟨⟨xn310, hn310, en310⟩, ⟨xa310, ha310, ea310⟩, hb310, -⟩ := id rd310
  refine y_same (i := .aload_n 0) (len := 1) (r := (0, 0, 0, 0)) (pc' := 5) (ls' := [some (.inl (some 15)), some (.inl (some 2000001))]) (st' := [.inl (some 15)]) (by decide +kernel) (fun k q => by cases q) rfl ?_
  refine y_cI (i := .invokevirtual 155) (len := 3) (r := (0, 59, 5, 951)) (nL := 2) (k := 1) (n := 1) (hs := []) (args := [.inl (some 15)]) (rest := []) (l0 := [some (.inl (some 15)), none]) (by decide +kernel) (Or.inr (Or.inl ⟨_, rfl⟩)) rfl rfl rfl rfl (Nat.le_of_ble_eq_true rfl) (zO O310.2.1 (tv15 O310.2.1) aw15 rfl) rfl (qI_le (by decide) (e_count O310.2.1 rd310 (by omega))) (fun y311 qy311 hRy311 => ?_)
  obtain ⟨rfl, hy311⟩ := hRy311
  have cly311 := cl_le (b := b) (n := n) (a := (sk b n a))
  refine y_same (i := .aload_n 1) (len := 1) (r := (0, 0, 0, 0)) (pc' := 9) (ls' := [some (.inl (some 15)), some (.inl (some 2000001))]) (st' := [.inl (some 2000001), zi y311]) (by decide +kernel) (fun k q => by cases q) rfl ?_
  refine y_cI (i := .invokevirtual 158) (len := 3) (r := (0, 268, 50, 955)) (nL := 1) (k := 1) (n := 1) (hs := []) (args := [.inl (some 2000001)]) (rest := [zi y311]) (l0 := [some (.inl (some 2000001))]) (by decide +kernel) (Or.inr (Or.inl ⟨_, rfl⟩)) rfl rfl rfl rfl (Nat.le_of_ble_eq_true rfl) rfl rfl (qI_le (by decide) tln1) (fun y312 qy312 hRy312 => ?_)
  obtain ⟨rfl, hy312⟩ := hRy312
  rcases Decidable.em (y311.toInt ≠ y312.toInt) with q313 | q313
  ·
    refine y_cT (c := .ne) (off := 15) (pc' := 27) (len := 3) (r := (0, 0, 0, 0)) (by decide +kernel) (acmpT (c := .ne) (by show ¬ (_ = _); omega)) (by decide +kernel) ?_
    refine y_ic (c := 0) (len := 1) (r := (0, 0, 0, 0)) (by decide +kernel) (by decide) (fun y314 hy314 => ?_)
    refine y_rI (len := 1) (r := (0, 0, 0, 0)) (nL := 2) (k := 2) (n9 := 2) (hs := []) (by decide +kernel) rfl (zfit_b (by omega) (by omega)).2 ?_
    exact ⟨_, ⟨O310.1, O310.2.1, fun k T j hk (hC : k ≠ 15 ∨ j ≠ 3) => (O310.2.2 k T j hk (show k ≠ 15 ∨ j ≠ 3 by omega))⟩, Or.inr ⟨wrd_c (w := wLs) sml_wLs (by show (_ : Nat) ≠ 2; omega), by omega, rd310⟩⟩
  ·
    refine y_cF (c := .ne) (off := 15) (len := 3) (r := (0, 0, 0, 0)) (by decide +kernel) (acmpF (c := .ne) (by show _ = _; omega)) ?_
    refine y_same (i := .aload_n 0) (len := 1) (r := (0, 0, 0, 0)) (pc' := 16) (ls' := [some (.inl (some 15)), some (.inl (some 2000001))]) (st' := [.inl (some 15)]) (by decide +kernel) (fun k q => by cases q) rfl ?_
    refine y_same (i := .aload_n 1) (len := 1) (r := (0, 0, 0, 0)) (pc' := 17) (ls' := [some (.inl (some 15)), some (.inl (some 2000001))]) (st' := [.inl (some 2000001), .inl (some 15)]) (by decide +kernel) (fun k q => by cases q) rfl ?_
    refine y_cI (i := .invokevirtual 86) (len := 3) (r := (0, 57, 5, 965)) (nL := 4) (k := 2) (n := 2) (hs := []) (args := [.inl (some 15), .inl (some 2000001)]) (rest := []) (l0 := [some (.inl (some 15)), some (.inl (some 2000001)), none, none]) (by decide +kernel) (Or.inr (Or.inl ⟨_, rfl⟩)) rfl rfl rfl rfl (Nat.le_of_ble_eq_true rfl) (zO O310.2.1 (tv15 O310.2.1) aw15 rfl) rfl (qI_le (by decide) (e_sign1 O310.2.1 rd310 (by omega))) (fun y315 h315 hRy315 => ?_)
    obtain ⟨τ315, O315, hD315⟩ := hRy315
    rcases hD315 with ⟨a315, e315, le315, y315, r315⟩ | ⟨e315, y315, r315⟩
    ·
      obtain ⟨⟨xn315y, hn315y, en315y⟩, ⟨xa315y, ha315y, ea315y⟩, hb315y, -⟩ := id r315
      refine y_iF (c := .eq) (off := 7) (len := 3) (r := (0, 0, 0, 0)) (by decide +kernel) (acmpF (c := .eq) (by show ¬ (_ = _); omega)) ?_
      refine y_ic (c := 1) (len := 1) (r := (0, 0, 0, 0)) (by decide +kernel) (by decide) (fun y316 hy316 => ?_)
      refine y_goto (off := 4) (pc' := 28) (len := 3) (r := (0, 0, 0, 0)) (by decide +kernel) (by decide +kernel) ?_
      refine y_rI (len := 1) (r := (0, 0, 0, 0)) (nL := 2) (k := 2) (n9 := 2) (hs := []) (by decide +kernel) rfl (zfit_b (by omega) (by omega)).2 ?_
      rw [sgn_sk (by omega)] at e315
      exact ⟨_, ⟨(aup_trans O310.1 O315.1), O315.2.1, fun k T j hk (hC : k ≠ 15 ∨ j ≠ 3) => ((O315.2.2 k T j (O310.1 _ _ hk) (show k ≠ 15 ∨ j ≠ 3 by omega)).trans (O310.2.2 k T j hk (show k ≠ 15 ∨ j ≠ 3 by omega)))⟩, Or.inl ⟨a315, wrd_s (w := wLs) sml_wLs (by show (_ : Nat) = 2; omega) e315, by omega, by omega, r315⟩⟩
    ·
      have sl315 := sk_le (b := b) (n := n) (a := (sk b n a)) (by omega)
      obtain ⟨⟨xn315n, hn315n, en315n⟩, ⟨xa315n, ha315n, ea315n⟩, hb315n, -⟩ := id r315
      refine y_iT (c := .eq) (off := 7) (pc' := 27) (len := 3) (r := (0, 0, 0, 0)) (by decide +kernel) (acmpT (c := .eq) (by show _ = _; omega)) (by decide +kernel) ?_
      refine y_ic (c := 0) (len := 1) (r := (0, 0, 0, 0)) (by decide +kernel) (by decide) (fun y317 hy317 => ?_)
      refine y_rI (len := 1) (r := (0, 0, 0, 0)) (nL := 2) (k := 2) (n9 := 2) (hs := []) (by decide +kernel) rfl (zfit_b (by omega) (by omega)).2 ?_
      rw [sgn_sk (by omega)] at e315
      have rz := r315
      rw [sk_idem (by omega)] at rz
      exact ⟨_, ⟨(aup_trans O310.1 O315.1), O315.2.1, fun k T j hk (hC : k ≠ 15 ∨ j ≠ 3) => ((O315.2.2 k T j (O310.1 _ _ hk) (show k ≠ 15 ∨ j ≠ 3 by omega)).trans (O310.2.2 k T j hk (show k ≠ 15 ∨ j ≠ 3 by omega)))⟩, Or.inr ⟨wrd_o (w := wLs) e315, by omega, rz⟩⟩
theorem sml_wTree : ∀ c ∈ wTree, sml c := by
  unfold sml wTree
  intro c hc
  simp only [List.mem_cons, List.not_mem_nil, or_false] at hc
  omega
theorem e_word5 {t n a : Nat} {b : Nat → Int} {τ : List Nat} {h : zh} (hg : hG τ h) (rd : rdC h n a b) (han : a ≤ n) : qI 9 58 [some (.inl (some 15)), some (.inl (some 2000005))] h t (fun y h1 => ∃ τ1, oF (fun k j => k ≠ 15 ∨ j ≠ 3) τ h τ1 h1 ∧ ((∃ a', wrd b n wTree a = some a' ∧ a' ≤ n ∧ y.toInt = 1 ∧ rdC h1 n a' b) ∨ (wrd b n wTree a = none ∧ y.toInt = 0 ∧ rdC h1 n (sk b n a) b))) := by
  obtain ⟨⟨xn, hn, en⟩, ⟨xa, ha, ea⟩, hb, hn2⟩ := id rd
  refine qI_of ?_
  refine y_same (i := .aload_n 0) (len := 1) (r := (0, 0, 0, 0)) (pc' := 1) (ls' := [some (.inl (some 15)), some (.inl (some 2000005))]) (st' := [.inl (some 15)]) (by decide +kernel) (fun k q => by cases q) rfl ?_
  refine y_cV (i := .invokevirtual 89) (len := 3) (r := (0, 60, 5, 947)) (nL := 1) (k := 0) (n := 1) (hs := []) (args := [.inl (some 15)]) (rest := []) (l0 := [some (.inl (some 15))]) (by decide +kernel) (Or.inr (Or.inl ⟨_, rfl⟩)) rfl rfl rfl rfl (Nat.le_of_ble_eq_true rfl) (zO hg (tv15 hg) aw15 rfl) rfl (qV_le (by decide) (e_skip hg rd (by omega))) (fun h318 hR318 => ?_)
  obtain ⟨τ318, O318, rd318⟩ := hR318
  have sl318 := sk_le (b := b) (n := n) (a := a) (by omega)
  obtain ⟨⟨xn318, hn318, en318⟩, ⟨xa318, ha318, ea318⟩, hb318, -⟩ := id rd318
  refine y_same (i := .aload_n 0) (len := 1) (r := (0, 0, 0, 0)) (pc' := 5) (ls' := [some (.inl (some 15)), some (.inl (some 2000005))]) (st' := [.inl (some 15)]) (by decide +kernel) (fun k q => by cases q) rfl ?_
  refine y_cI (i := .invokevirtual 155) (len := 3) (r := (0, 59, 5, 951)) (nL := 2) (k := 1) (n := 1) (hs := []) (args := [.inl (some 15)]) (rest := []) (l0 := [some (.inl (some 15)), none]) (by decide +kernel) (Or.inr (Or.inl ⟨_, rfl⟩)) rfl rfl rfl rfl (Nat.le_of_ble_eq_true rfl) (zO O318.2.1 (tv15 O318.2.1) aw15 rfl) rfl (qI_le (by decide) (e_count O318.2.1 rd318 (by omega))) (fun y319 qy319 hRy319 => ?_)
  obtain ⟨rfl, hy319⟩ := hRy319
  have cly319 := cl_le (b := b) (n := n) (a := (sk b n a))
  refine y_same (i := .aload_n 1) (len := 1) (r := (0, 0, 0, 0)) (pc' := 9) (ls' := [some (.inl (some 15)), some (.inl (some 2000005))]) (st' := [.inl (some 2000005), zi y319]) (by decide +kernel) (fun k q => by cases q) rfl ?_
  refine y_cI (i := .invokevirtual 158) (len := 3) (r := (0, 268, 50, 955)) (nL := 1) (k := 1) (n := 1) (hs := []) (args := [.inl (some 2000005)]) (rest := [zi y319]) (l0 := [some (.inl (some 2000005))]) (by decide +kernel) (Or.inr (Or.inl ⟨_, rfl⟩)) rfl rfl rfl rfl (Nat.le_of_ble_eq_true rfl) rfl rfl (qI_le (by decide) tln5) (fun y320 qy320 hRy320 => ?_)
  obtain ⟨rfl, hy320⟩ := hRy320
  rcases Decidable.em (y319.toInt ≠ y320.toInt) with q321 | q321
  ·
    refine y_cT (c := .ne) (off := 15) (pc' := 27) (len := 3) (r := (0, 0, 0, 0)) (by decide +kernel) (acmpT (c := .ne) (by show ¬ (_ = _); omega)) (by decide +kernel) ?_
    refine y_ic (c := 0) (len := 1) (r := (0, 0, 0, 0)) (by decide +kernel) (by decide) (fun y322 hy322 => ?_)
    refine y_rI (len := 1) (r := (0, 0, 0, 0)) (nL := 2) (k := 2) (n9 := 2) (hs := []) (by decide +kernel) rfl (zfit_b (by omega) (by omega)).2 ?_
    exact ⟨_, ⟨O318.1, O318.2.1, fun k T j hk (hC : k ≠ 15 ∨ j ≠ 3) => (O318.2.2 k T j hk (show k ≠ 15 ∨ j ≠ 3 by omega))⟩, Or.inr ⟨wrd_c (w := wTree) sml_wTree (by show (_ : Nat) ≠ 4; omega), by omega, rd318⟩⟩
  ·
    refine y_cF (c := .ne) (off := 15) (len := 3) (r := (0, 0, 0, 0)) (by decide +kernel) (acmpF (c := .ne) (by show _ = _; omega)) ?_
    refine y_same (i := .aload_n 0) (len := 1) (r := (0, 0, 0, 0)) (pc' := 16) (ls' := [some (.inl (some 15)), some (.inl (some 2000005))]) (st' := [.inl (some 15)]) (by decide +kernel) (fun k q => by cases q) rfl ?_
    refine y_same (i := .aload_n 1) (len := 1) (r := (0, 0, 0, 0)) (pc' := 17) (ls' := [some (.inl (some 15)), some (.inl (some 2000005))]) (st' := [.inl (some 2000005), .inl (some 15)]) (by decide +kernel) (fun k q => by cases q) rfl ?_
    refine y_cI (i := .invokevirtual 86) (len := 3) (r := (0, 57, 5, 965)) (nL := 4) (k := 2) (n := 2) (hs := []) (args := [.inl (some 15), .inl (some 2000005)]) (rest := []) (l0 := [some (.inl (some 15)), some (.inl (some 2000005)), none, none]) (by decide +kernel) (Or.inr (Or.inl ⟨_, rfl⟩)) rfl rfl rfl rfl (Nat.le_of_ble_eq_true rfl) (zO O318.2.1 (tv15 O318.2.1) aw15 rfl) rfl (qI_le (by decide) (e_sign5 O318.2.1 rd318 (by omega))) (fun y323 h323 hRy323 => ?_)
    obtain ⟨τ323, O323, hD323⟩ := hRy323
    rcases hD323 with ⟨a323, e323, le323, y323, r323⟩ | ⟨e323, y323, r323⟩
    ·
      obtain ⟨⟨xn323y, hn323y, en323y⟩, ⟨xa323y, ha323y, ea323y⟩, hb323y, -⟩ := id r323
      refine y_iF (c := .eq) (off := 7) (len := 3) (r := (0, 0, 0, 0)) (by decide +kernel) (acmpF (c := .eq) (by show ¬ (_ = _); omega)) ?_
      refine y_ic (c := 1) (len := 1) (r := (0, 0, 0, 0)) (by decide +kernel) (by decide) (fun y324 hy324 => ?_)
      refine y_goto (off := 4) (pc' := 28) (len := 3) (r := (0, 0, 0, 0)) (by decide +kernel) (by decide +kernel) ?_
      refine y_rI (len := 1) (r := (0, 0, 0, 0)) (nL := 2) (k := 2) (n9 := 2) (hs := []) (by decide +kernel) rfl (zfit_b (by omega) (by omega)).2 ?_
      rw [sgn_sk (by omega)] at e323
      exact ⟨_, ⟨(aup_trans O318.1 O323.1), O323.2.1, fun k T j hk (hC : k ≠ 15 ∨ j ≠ 3) => ((O323.2.2 k T j (O318.1 _ _ hk) (show k ≠ 15 ∨ j ≠ 3 by omega)).trans (O318.2.2 k T j hk (show k ≠ 15 ∨ j ≠ 3 by omega)))⟩, Or.inl ⟨a323, wrd_s (w := wTree) sml_wTree (by show (_ : Nat) = 4; omega) e323, by omega, by omega, r323⟩⟩
    ·
      have sl323 := sk_le (b := b) (n := n) (a := (sk b n a)) (by omega)
      obtain ⟨⟨xn323n, hn323n, en323n⟩, ⟨xa323n, ha323n, ea323n⟩, hb323n, -⟩ := id r323
      refine y_iT (c := .eq) (off := 7) (pc' := 27) (len := 3) (r := (0, 0, 0, 0)) (by decide +kernel) (acmpT (c := .eq) (by show _ = _; omega)) (by decide +kernel) ?_
      refine y_ic (c := 0) (len := 1) (r := (0, 0, 0, 0)) (by decide +kernel) (by decide) (fun y325 hy325 => ?_)
      refine y_rI (len := 1) (r := (0, 0, 0, 0)) (nL := 2) (k := 2) (n9 := 2) (hs := []) (by decide +kernel) rfl (zfit_b (by omega) (by omega)).2 ?_
      rw [sgn_sk (by omega)] at e323
      have rz := r323
      rw [sk_idem (by omega)] at rz
      exact ⟨_, ⟨(aup_trans O318.1 O323.1), O323.2.1, fun k T j hk (hC : k ≠ 15 ∨ j ≠ 3) => ((O323.2.2 k T j (O318.1 _ _ hk) (show k ≠ 15 ∨ j ≠ 3 by omega)).trans (O318.2.2 k T j hk (show k ≠ 15 ∨ j ≠ 3 by omega)))⟩, Or.inr ⟨wrd_o (w := wTree) e323, by omega, rz⟩⟩
theorem e_refuse {d t q : Nat} {r : Int} {τ : List Nat} {h : zh} {xr xp : Int32} (hg : hG τ h) (hr : xr.toInt = r) (hp : xp.toInt = (q : Int)) : qI (d + 1) 61 [some (.inl (some 15)), some (zi xr), some (zi xp)] h t (fun y h1 => y.toInt = 0 ∧ ∃ τ1, oF (fun k j => k ≠ 15 ∨ j < 4) τ h τ1 h1 ∧ flt h1 r q) := by
  refine qI_of ?_
  refine y_same (i := .aload_n 0) (len := 1) (r := (0, 0, 0, 0)) (pc' := 1) (ls' := [some (.inl (some 15)), some (zi xr), some (zi xp)]) (st' := [.inl (some 15)]) (by decide +kernel) (fun k q => by cases q) rfl ?_
  refine y_same (i := .iload_n 1) (len := 1) (r := (0, 0, 0, 0)) (pc' := 2) (ls' := [some (.inl (some 15)), some (zi xr), some (zi xp)]) (st' := [zi xr, .inl (some 15)]) (by decide +kernel) (fun k q => by cases q) rfl ?_
  refine y_put (j := 29) (lo := (-2147483648)) (hi := 2147483647) (len := 3) (r := (5, 4, 0, 244)) (by decide +kernel) hg (tv15 hg) aw15 rfl rfl (by decide) rfl (qin_full _).1 (qin_full _).2 rfl (fun h326 hg326 hl326 hs326 ho326 => ?_)
  have ho326 : hO 15 4 h h326 := ho326
  have hs326 : hsl h326 15 4 = some (zi xr) := hs326
  refine y_same (i := .aload_n 0) (len := 1) (r := (0, 0, 0, 0)) (pc' := 6) (ls' := [some (.inl (some 15)), some (zi xr), some (zi xp)]) (st' := [.inl (some 15)]) (by decide +kernel) (fun k q => by cases q) rfl ?_
  refine y_same (i := .iload_n 2) (len := 1) (r := (0, 0, 0, 0)) (pc' := 7) (ls' := [some (.inl (some 15)), some (zi xr), some (zi xp)]) (st' := [zi xp, .inl (some 15)]) (by decide +kernel) (fun k q => by cases q) rfl ?_
  refine y_put (j := 32) (lo := (-2147483648)) (hi := 2147483647) (len := 3) (r := (5, 5, 0, 246)) (by decide +kernel) hg326 (tv15 hg326) aw15 rfl rfl (by decide) rfl (qin_full _).1 (qin_full _).2 rfl (fun h327 hg327 hl327 hs327 ho327 => ?_)
  have ho327 : hO 15 5 h326 h327 := ho327
  have hs327 : hsl h327 15 5 = some (zi xp) := hs327
  refine y_ic (c := 0) (len := 1) (r := (0, 0, 0, 0)) (by decide +kernel) (by decide) (fun y328 hy328 => ?_)
  refine y_rI (len := 1) (r := (0, 0, 0, 0)) (nL := 3) (k := 2) (n9 := 3) (hs := []) (by decide +kernel) rfl (zfit_b (by omega) (by omega)).2 ?_
  have hv329 := (ho327 15 4 (Or.inr (by omega))).trans hs326
  exact ⟨by omega, _, ⟨(aup_refl _), hg327, fun k T j hk (hC : k ≠ 15 ∨ j < 4) => ((ho327 k j (by omega)).trans (ho326 k j (by omega)))⟩, ⟨_, hv329, by omega⟩, ⟨_, hs327, by omega⟩⟩
theorem e_need2 {t n a : Nat} {b : Nat → Int} {τ : List Nat} {h : zh} (hg : hG τ h) (rd : rdC h n a b) (han : a ≤ n) : qI 10 55 [some (.inl (some 15)), some (.inl (some 2000002))] h t (fun y h1 => ∃ τ1, oF (fun k j => k ≠ 15 ∨ j < 3) τ h τ1 h1 ∧ ((∃ a', ndd b n [40] a = .inr a' ∧ a' ≤ n ∧ y.toInt = 1 ∧ rdC h1 n a' b) ∨ (ndd b n [40] a = .inl (1, sk b n a) ∧ y.toInt = 0 ∧ flt h1 1 (sk b n a)))) := by
  obtain ⟨⟨xn, hn, en⟩, ⟨xa, ha, ea⟩, hb, hn2⟩ := id rd
  refine qI_of ?_
  refine y_same (i := .aload_n 0) (len := 1) (r := (0, 0, 0, 0)) (pc' := 1) (ls' := [some (.inl (some 15)), some (.inl (some 2000002))]) (st' := [.inl (some 15)]) (by decide +kernel) (fun k q => by cases q) rfl ?_
  refine y_same (i := .aload_n 1) (len := 1) (r := (0, 0, 0, 0)) (pc' := 2) (ls' := [some (.inl (some 15)), some (.inl (some 2000002))]) (st' := [.inl (some 2000002), .inl (some 15)]) (by decide +kernel) (fun k q => by cases q) rfl ?_
  refine y_cI (i := .invokevirtual 86) (len := 3) (r := (0, 57, 5, 965)) (nL := 4) (k := 2) (n := 2) (hs := []) (args := [.inl (some 15), .inl (some 2000002)]) (rest := []) (l0 := [some (.inl (some 15)), some (.inl (some 2000002)), none, none]) (by decide +kernel) (Or.inr (Or.inl ⟨_, rfl⟩)) rfl rfl rfl rfl (Nat.le_of_ble_eq_true rfl) (zO hg (tv15 hg) aw15 rfl) rfl (qI_le (by decide) (e_sign2 hg rd (by omega))) (fun y330 h330 hRy330 => ?_)
  obtain ⟨τ330, O330, hD330⟩ := hRy330
  rcases hD330 with ⟨a330, e330, le330, y330, r330⟩ | ⟨e330, y330, r330⟩
  ·
    obtain ⟨⟨xn330y, hn330y, en330y⟩, ⟨xa330y, ha330y, ea330y⟩, hb330y, -⟩ := id r330
    refine y_iT (c := .ne) (off := 15) (pc' := 20) (len := 3) (r := (0, 0, 0, 0)) (by decide +kernel) (acmpT (c := .ne) (by show ¬ (_ = _); omega)) (by decide +kernel) ?_
    refine y_ic (c := 1) (len := 1) (r := (0, 0, 0, 0)) (by decide +kernel) (by decide) (fun y331 hy331 => ?_)
    refine y_goto (off := 4) (pc' := 25) (len := 3) (r := (0, 0, 0, 0)) (by decide +kernel) (by decide +kernel) ?_
    refine y_rI (len := 1) (r := (0, 0, 0, 0)) (nL := 2) (k := 2) (n9 := 2) (hs := []) (by decide +kernel) rfl (zfit_b (by omega) (by omega)).2 ?_
    exact ⟨_, ⟨O330.1, O330.2.1, fun k T j hk (hC : k ≠ 15 ∨ j < 3) => (O330.2.2 k T j hk (show k ≠ 15 ∨ j ≠ 3 by omega))⟩, Or.inl ⟨a330, (by unfold ndd; rw [e330]), by omega, by omega, r330⟩⟩
  ·
    have sl330 := sk_le (b := b) (n := n) (a := a) (by omega)
    obtain ⟨⟨xn330n, hn330n, en330n⟩, ⟨xa330n, ha330n, ea330n⟩, hb330n, -⟩ := id r330
    refine y_iF (c := .ne) (off := 15) (len := 3) (r := (0, 0, 0, 0)) (by decide +kernel) (acmpF (c := .ne) (by show _ = _; omega)) ?_
    refine y_same (i := .aload_n 0) (len := 1) (r := (0, 0, 0, 0)) (pc' := 9) (ls' := [some (.inl (some 15)), some (.inl (some 2000002))]) (st' := [.inl (some 15)]) (by decide +kernel) (fun k q => by cases q) rfl ?_
    refine y_ic (c := 1) (len := 1) (r := (0, 0, 0, 0)) (by decide +kernel) (by decide) (fun y332 hy332 => ?_)
    refine y_same (i := .aload_n 0) (len := 1) (r := (0, 0, 0, 0)) (pc' := 11) (ls' := [some (.inl (some 15)), some (.inl (some 2000002))]) (st' := [.inl (some 15), zi y332, .inl (some 15)]) (by decide +kernel) (fun k q => by cases q) rfl ?_
    refine y_get (j := 26) (len := 3) (r := (5, 3, 0, 243)) (by decide +kernel) O330.2.1 (tv15 O330.2.1) aw15 rfl rfl ha330n ?_
    refine y_cI (i := .invokevirtual 147) (len := 3) (r := (0, 61, 5, 1021)) (nL := 3) (k := 2) (n := 3) (hs := []) (args := [.inl (some 15), zi y332, zi xa330n]) (rest := []) (l0 := [some (.inl (some 15)), some (zi y332), some (zi xa330n)]) (by decide +kernel) (Or.inr (Or.inl ⟨_, rfl⟩)) rfl rfl rfl rfl (Nat.le_of_ble_eq_true rfl) (zO O330.2.1 (tv15 O330.2.1) aw15 rfl) rfl (qI_le (by decide) (e_refuse (d := 0) (r := 1) (q := (sk b n a)) O330.2.1 (by omega) (by omega))) (fun y333 h333 hRy333 => ?_)
    obtain ⟨z333, τ333, O333, fl333⟩ := hRy333
    refine y_iT (c := .eq) (off := 7) (pc' := 24) (len := 3) (r := (0, 0, 0, 0)) (by decide +kernel) (acmpT (c := .eq) (by show _ = _; omega)) (by decide +kernel) ?_
    refine y_ic (c := 0) (len := 1) (r := (0, 0, 0, 0)) (by decide +kernel) (by decide) (fun y334 hy334 => ?_)
    refine y_rI (len := 1) (r := (0, 0, 0, 0)) (nL := 2) (k := 2) (n9 := 2) (hs := []) (by decide +kernel) rfl (zfit_b (by omega) (by omega)).2 ?_
    exact ⟨_, ⟨(aup_trans O330.1 O333.1), O333.2.1, fun k T j hk (hC : k ≠ 15 ∨ j < 3) => ((O333.2.2 k T j (O330.1 _ _ hk) (show k ≠ 15 ∨ j < 4 by omega)).trans (O330.2.2 k T j hk (show k ≠ 15 ∨ j ≠ 3 by omega)))⟩, Or.inr ⟨(by unfold ndd; rw [e330]), by omega, fl333⟩⟩
theorem e_need3 {t n a : Nat} {b : Nat → Int} {τ : List Nat} {h : zh} (hg : hG τ h) (rd : rdC h n a b) (han : a ≤ n) : qI 10 55 [some (.inl (some 15)), some (.inl (some 2000003))] h t (fun y h1 => ∃ τ1, oF (fun k j => k ≠ 15 ∨ j < 3) τ h τ1 h1 ∧ ((∃ a', ndd b n [44] a = .inr a' ∧ a' ≤ n ∧ y.toInt = 1 ∧ rdC h1 n a' b) ∨ (ndd b n [44] a = .inl (1, sk b n a) ∧ y.toInt = 0 ∧ flt h1 1 (sk b n a)))) := by
  obtain ⟨⟨xn, hn, en⟩, ⟨xa, ha, ea⟩, hb, hn2⟩ := id rd
  refine qI_of ?_
  refine y_same (i := .aload_n 0) (len := 1) (r := (0, 0, 0, 0)) (pc' := 1) (ls' := [some (.inl (some 15)), some (.inl (some 2000003))]) (st' := [.inl (some 15)]) (by decide +kernel) (fun k q => by cases q) rfl ?_
  refine y_same (i := .aload_n 1) (len := 1) (r := (0, 0, 0, 0)) (pc' := 2) (ls' := [some (.inl (some 15)), some (.inl (some 2000003))]) (st' := [.inl (some 2000003), .inl (some 15)]) (by decide +kernel) (fun k q => by cases q) rfl ?_
  refine y_cI (i := .invokevirtual 86) (len := 3) (r := (0, 57, 5, 965)) (nL := 4) (k := 2) (n := 2) (hs := []) (args := [.inl (some 15), .inl (some 2000003)]) (rest := []) (l0 := [some (.inl (some 15)), some (.inl (some 2000003)), none, none]) (by decide +kernel) (Or.inr (Or.inl ⟨_, rfl⟩)) rfl rfl rfl rfl (Nat.le_of_ble_eq_true rfl) (zO hg (tv15 hg) aw15 rfl) rfl (qI_le (by decide) (e_sign3 hg rd (by omega))) (fun y335 h335 hRy335 => ?_)
  obtain ⟨τ335, O335, hD335⟩ := hRy335
  rcases hD335 with ⟨a335, e335, le335, y335, r335⟩ | ⟨e335, y335, r335⟩
  ·
    obtain ⟨⟨xn335y, hn335y, en335y⟩, ⟨xa335y, ha335y, ea335y⟩, hb335y, -⟩ := id r335
    refine y_iT (c := .ne) (off := 15) (pc' := 20) (len := 3) (r := (0, 0, 0, 0)) (by decide +kernel) (acmpT (c := .ne) (by show ¬ (_ = _); omega)) (by decide +kernel) ?_
    refine y_ic (c := 1) (len := 1) (r := (0, 0, 0, 0)) (by decide +kernel) (by decide) (fun y336 hy336 => ?_)
    refine y_goto (off := 4) (pc' := 25) (len := 3) (r := (0, 0, 0, 0)) (by decide +kernel) (by decide +kernel) ?_
    refine y_rI (len := 1) (r := (0, 0, 0, 0)) (nL := 2) (k := 2) (n9 := 2) (hs := []) (by decide +kernel) rfl (zfit_b (by omega) (by omega)).2 ?_
    exact ⟨_, ⟨O335.1, O335.2.1, fun k T j hk (hC : k ≠ 15 ∨ j < 3) => (O335.2.2 k T j hk (show k ≠ 15 ∨ j ≠ 3 by omega))⟩, Or.inl ⟨a335, (by unfold ndd; rw [e335]), by omega, by omega, r335⟩⟩
  ·
    have sl335 := sk_le (b := b) (n := n) (a := a) (by omega)
    obtain ⟨⟨xn335n, hn335n, en335n⟩, ⟨xa335n, ha335n, ea335n⟩, hb335n, -⟩ := id r335
    refine y_iF (c := .ne) (off := 15) (len := 3) (r := (0, 0, 0, 0)) (by decide +kernel) (acmpF (c := .ne) (by show _ = _; omega)) ?_
    refine y_same (i := .aload_n 0) (len := 1) (r := (0, 0, 0, 0)) (pc' := 9) (ls' := [some (.inl (some 15)), some (.inl (some 2000003))]) (st' := [.inl (some 15)]) (by decide +kernel) (fun k q => by cases q) rfl ?_
    refine y_ic (c := 1) (len := 1) (r := (0, 0, 0, 0)) (by decide +kernel) (by decide) (fun y337 hy337 => ?_)
    refine y_same (i := .aload_n 0) (len := 1) (r := (0, 0, 0, 0)) (pc' := 11) (ls' := [some (.inl (some 15)), some (.inl (some 2000003))]) (st' := [.inl (some 15), zi y337, .inl (some 15)]) (by decide +kernel) (fun k q => by cases q) rfl ?_
    refine y_get (j := 26) (len := 3) (r := (5, 3, 0, 243)) (by decide +kernel) O335.2.1 (tv15 O335.2.1) aw15 rfl rfl ha335n ?_
    refine y_cI (i := .invokevirtual 147) (len := 3) (r := (0, 61, 5, 1021)) (nL := 3) (k := 2) (n := 3) (hs := []) (args := [.inl (some 15), zi y337, zi xa335n]) (rest := []) (l0 := [some (.inl (some 15)), some (zi y337), some (zi xa335n)]) (by decide +kernel) (Or.inr (Or.inl ⟨_, rfl⟩)) rfl rfl rfl rfl (Nat.le_of_ble_eq_true rfl) (zO O335.2.1 (tv15 O335.2.1) aw15 rfl) rfl (qI_le (by decide) (e_refuse (d := 0) (r := 1) (q := (sk b n a)) O335.2.1 (by omega) (by omega))) (fun y338 h338 hRy338 => ?_)
    obtain ⟨z338, τ338, O338, fl338⟩ := hRy338
    refine y_iT (c := .eq) (off := 7) (pc' := 24) (len := 3) (r := (0, 0, 0, 0)) (by decide +kernel) (acmpT (c := .eq) (by show _ = _; omega)) (by decide +kernel) ?_
    refine y_ic (c := 0) (len := 1) (r := (0, 0, 0, 0)) (by decide +kernel) (by decide) (fun y339 hy339 => ?_)
    refine y_rI (len := 1) (r := (0, 0, 0, 0)) (nL := 2) (k := 2) (n9 := 2) (hs := []) (by decide +kernel) rfl (zfit_b (by omega) (by omega)).2 ?_
    exact ⟨_, ⟨(aup_trans O335.1 O338.1), O338.2.1, fun k T j hk (hC : k ≠ 15 ∨ j < 3) => ((O338.2.2 k T j (O335.1 _ _ hk) (show k ≠ 15 ∨ j < 4 by omega)).trans (O335.2.2 k T j hk (show k ≠ 15 ∨ j ≠ 3 by omega)))⟩, Or.inr ⟨(by unfold ndd; rw [e335]), by omega, fl338⟩⟩
theorem e_need4 {t n a : Nat} {b : Nat → Int} {τ : List Nat} {h : zh} (hg : hG τ h) (rd : rdC h n a b) (han : a ≤ n) : qI 10 55 [some (.inl (some 15)), some (.inl (some 2000004))] h t (fun y h1 => ∃ τ1, oF (fun k j => k ≠ 15 ∨ j < 3) τ h τ1 h1 ∧ ((∃ a', ndd b n [41] a = .inr a' ∧ a' ≤ n ∧ y.toInt = 1 ∧ rdC h1 n a' b) ∨ (ndd b n [41] a = .inl (1, sk b n a) ∧ y.toInt = 0 ∧ flt h1 1 (sk b n a)))) := by
  obtain ⟨⟨xn, hn, en⟩, ⟨xa, ha, ea⟩, hb, hn2⟩ := id rd
  refine qI_of ?_
  refine y_same (i := .aload_n 0) (len := 1) (r := (0, 0, 0, 0)) (pc' := 1) (ls' := [some (.inl (some 15)), some (.inl (some 2000004))]) (st' := [.inl (some 15)]) (by decide +kernel) (fun k q => by cases q) rfl ?_
  refine y_same (i := .aload_n 1) (len := 1) (r := (0, 0, 0, 0)) (pc' := 2) (ls' := [some (.inl (some 15)), some (.inl (some 2000004))]) (st' := [.inl (some 2000004), .inl (some 15)]) (by decide +kernel) (fun k q => by cases q) rfl ?_
  refine y_cI (i := .invokevirtual 86) (len := 3) (r := (0, 57, 5, 965)) (nL := 4) (k := 2) (n := 2) (hs := []) (args := [.inl (some 15), .inl (some 2000004)]) (rest := []) (l0 := [some (.inl (some 15)), some (.inl (some 2000004)), none, none]) (by decide +kernel) (Or.inr (Or.inl ⟨_, rfl⟩)) rfl rfl rfl rfl (Nat.le_of_ble_eq_true rfl) (zO hg (tv15 hg) aw15 rfl) rfl (qI_le (by decide) (e_sign4 hg rd (by omega))) (fun y340 h340 hRy340 => ?_)
  obtain ⟨τ340, O340, hD340⟩ := hRy340
  rcases hD340 with ⟨a340, e340, le340, y340, r340⟩ | ⟨e340, y340, r340⟩
  ·
    obtain ⟨⟨xn340y, hn340y, en340y⟩, ⟨xa340y, ha340y, ea340y⟩, hb340y, -⟩ := id r340
    refine y_iT (c := .ne) (off := 15) (pc' := 20) (len := 3) (r := (0, 0, 0, 0)) (by decide +kernel) (acmpT (c := .ne) (by show ¬ (_ = _); omega)) (by decide +kernel) ?_
    refine y_ic (c := 1) (len := 1) (r := (0, 0, 0, 0)) (by decide +kernel) (by decide) (fun y341 hy341 => ?_)
    refine y_goto (off := 4) (pc' := 25) (len := 3) (r := (0, 0, 0, 0)) (by decide +kernel) (by decide +kernel) ?_
    refine y_rI (len := 1) (r := (0, 0, 0, 0)) (nL := 2) (k := 2) (n9 := 2) (hs := []) (by decide +kernel) rfl (zfit_b (by omega) (by omega)).2 ?_
    exact ⟨_, ⟨O340.1, O340.2.1, fun k T j hk (hC : k ≠ 15 ∨ j < 3) => (O340.2.2 k T j hk (show k ≠ 15 ∨ j ≠ 3 by omega))⟩, Or.inl ⟨a340, (by unfold ndd; rw [e340]), by omega, by omega, r340⟩⟩
  ·
    have sl340 := sk_le (b := b) (n := n) (a := a) (by omega)
    obtain ⟨⟨xn340n, hn340n, en340n⟩, ⟨xa340n, ha340n, ea340n⟩, hb340n, -⟩ := id r340
    refine y_iF (c := .ne) (off := 15) (len := 3) (r := (0, 0, 0, 0)) (by decide +kernel) (acmpF (c := .ne) (by show _ = _; omega)) ?_
    refine y_same (i := .aload_n 0) (len := 1) (r := (0, 0, 0, 0)) (pc' := 9) (ls' := [some (.inl (some 15)), some (.inl (some 2000004))]) (st' := [.inl (some 15)]) (by decide +kernel) (fun k q => by cases q) rfl ?_
    refine y_ic (c := 1) (len := 1) (r := (0, 0, 0, 0)) (by decide +kernel) (by decide) (fun y342 hy342 => ?_)
    refine y_same (i := .aload_n 0) (len := 1) (r := (0, 0, 0, 0)) (pc' := 11) (ls' := [some (.inl (some 15)), some (.inl (some 2000004))]) (st' := [.inl (some 15), zi y342, .inl (some 15)]) (by decide +kernel) (fun k q => by cases q) rfl ?_
    refine y_get (j := 26) (len := 3) (r := (5, 3, 0, 243)) (by decide +kernel) O340.2.1 (tv15 O340.2.1) aw15 rfl rfl ha340n ?_
    refine y_cI (i := .invokevirtual 147) (len := 3) (r := (0, 61, 5, 1021)) (nL := 3) (k := 2) (n := 3) (hs := []) (args := [.inl (some 15), zi y342, zi xa340n]) (rest := []) (l0 := [some (.inl (some 15)), some (zi y342), some (zi xa340n)]) (by decide +kernel) (Or.inr (Or.inl ⟨_, rfl⟩)) rfl rfl rfl rfl (Nat.le_of_ble_eq_true rfl) (zO O340.2.1 (tv15 O340.2.1) aw15 rfl) rfl (qI_le (by decide) (e_refuse (d := 0) (r := 1) (q := (sk b n a)) O340.2.1 (by omega) (by omega))) (fun y343 h343 hRy343 => ?_)
    obtain ⟨z343, τ343, O343, fl343⟩ := hRy343
    refine y_iT (c := .eq) (off := 7) (pc' := 24) (len := 3) (r := (0, 0, 0, 0)) (by decide +kernel) (acmpT (c := .eq) (by show _ = _; omega)) (by decide +kernel) ?_
    refine y_ic (c := 0) (len := 1) (r := (0, 0, 0, 0)) (by decide +kernel) (by decide) (fun y344 hy344 => ?_)
    refine y_rI (len := 1) (r := (0, 0, 0, 0)) (nL := 2) (k := 2) (n9 := 2) (hs := []) (by decide +kernel) rfl (zfit_b (by omega) (by omega)).2 ?_
    exact ⟨_, ⟨(aup_trans O340.1 O343.1), O343.2.1, fun k T j hk (hC : k ≠ 15 ∨ j < 3) => ((O343.2.2 k T j (O340.1 _ _ hk) (show k ≠ 15 ∨ j < 4 by omega)).trans (O340.2.2 k T j hk (show k ≠ 15 ∨ j ≠ 3 by omega)))⟩, Or.inr ⟨(by unfold ndd; rw [e340]), by omega, fl343⟩⟩
theorem e_need8 {t n a : Nat} {b : Nat → Int} {τ : List Nat} {h : zh} (hg : hG τ h) (rd : rdC h n a b) (han : a ≤ n) : qI 10 55 [some (.inl (some 15)), some (.inl (some 2000008))] h t (fun y h1 => ∃ τ1, oF (fun k j => k ≠ 15 ∨ j < 3) τ h τ1 h1 ∧ ((∃ a', ndd b n [33, 61] a = .inr a' ∧ a' ≤ n ∧ y.toInt = 1 ∧ rdC h1 n a' b) ∨ (ndd b n [33, 61] a = .inl (1, sk b n a) ∧ y.toInt = 0 ∧ flt h1 1 (sk b n a)))) := by
  obtain ⟨⟨xn, hn, en⟩, ⟨xa, ha, ea⟩, hb, hn2⟩ := id rd
  refine qI_of ?_
  refine y_same (i := .aload_n 0) (len := 1) (r := (0, 0, 0, 0)) (pc' := 1) (ls' := [some (.inl (some 15)), some (.inl (some 2000008))]) (st' := [.inl (some 15)]) (by decide +kernel) (fun k q => by cases q) rfl ?_
  refine y_same (i := .aload_n 1) (len := 1) (r := (0, 0, 0, 0)) (pc' := 2) (ls' := [some (.inl (some 15)), some (.inl (some 2000008))]) (st' := [.inl (some 2000008), .inl (some 15)]) (by decide +kernel) (fun k q => by cases q) rfl ?_
  refine y_cI (i := .invokevirtual 86) (len := 3) (r := (0, 57, 5, 965)) (nL := 4) (k := 2) (n := 2) (hs := []) (args := [.inl (some 15), .inl (some 2000008)]) (rest := []) (l0 := [some (.inl (some 15)), some (.inl (some 2000008)), none, none]) (by decide +kernel) (Or.inr (Or.inl ⟨_, rfl⟩)) rfl rfl rfl rfl (Nat.le_of_ble_eq_true rfl) (zO hg (tv15 hg) aw15 rfl) rfl (qI_le (by decide) (e_sign8 hg rd (by omega))) (fun y345 h345 hRy345 => ?_)
  obtain ⟨τ345, O345, hD345⟩ := hRy345
  rcases hD345 with ⟨a345, e345, le345, y345, r345⟩ | ⟨e345, y345, r345⟩
  ·
    obtain ⟨⟨xn345y, hn345y, en345y⟩, ⟨xa345y, ha345y, ea345y⟩, hb345y, -⟩ := id r345
    refine y_iT (c := .ne) (off := 15) (pc' := 20) (len := 3) (r := (0, 0, 0, 0)) (by decide +kernel) (acmpT (c := .ne) (by show ¬ (_ = _); omega)) (by decide +kernel) ?_
    refine y_ic (c := 1) (len := 1) (r := (0, 0, 0, 0)) (by decide +kernel) (by decide) (fun y346 hy346 => ?_)
    refine y_goto (off := 4) (pc' := 25) (len := 3) (r := (0, 0, 0, 0)) (by decide +kernel) (by decide +kernel) ?_
    refine y_rI (len := 1) (r := (0, 0, 0, 0)) (nL := 2) (k := 2) (n9 := 2) (hs := []) (by decide +kernel) rfl (zfit_b (by omega) (by omega)).2 ?_
    exact ⟨_, ⟨O345.1, O345.2.1, fun k T j hk (hC : k ≠ 15 ∨ j < 3) => (O345.2.2 k T j hk (show k ≠ 15 ∨ j ≠ 3 by omega))⟩, Or.inl ⟨a345, (by unfold ndd; rw [e345]), by omega, by omega, r345⟩⟩
  ·
    have sl345 := sk_le (b := b) (n := n) (a := a) (by omega)
    obtain ⟨⟨xn345n, hn345n, en345n⟩, ⟨xa345n, ha345n, ea345n⟩, hb345n, -⟩ := id r345
    refine y_iF (c := .ne) (off := 15) (len := 3) (r := (0, 0, 0, 0)) (by decide +kernel) (acmpF (c := .ne) (by show _ = _; omega)) ?_
    refine y_same (i := .aload_n 0) (len := 1) (r := (0, 0, 0, 0)) (pc' := 9) (ls' := [some (.inl (some 15)), some (.inl (some 2000008))]) (st' := [.inl (some 15)]) (by decide +kernel) (fun k q => by cases q) rfl ?_
    refine y_ic (c := 1) (len := 1) (r := (0, 0, 0, 0)) (by decide +kernel) (by decide) (fun y347 hy347 => ?_)
    refine y_same (i := .aload_n 0) (len := 1) (r := (0, 0, 0, 0)) (pc' := 11) (ls' := [some (.inl (some 15)), some (.inl (some 2000008))]) (st' := [.inl (some 15), zi y347, .inl (some 15)]) (by decide +kernel) (fun k q => by cases q) rfl ?_
    refine y_get (j := 26) (len := 3) (r := (5, 3, 0, 243)) (by decide +kernel) O345.2.1 (tv15 O345.2.1) aw15 rfl rfl ha345n ?_
    refine y_cI (i := .invokevirtual 147) (len := 3) (r := (0, 61, 5, 1021)) (nL := 3) (k := 2) (n := 3) (hs := []) (args := [.inl (some 15), zi y347, zi xa345n]) (rest := []) (l0 := [some (.inl (some 15)), some (zi y347), some (zi xa345n)]) (by decide +kernel) (Or.inr (Or.inl ⟨_, rfl⟩)) rfl rfl rfl rfl (Nat.le_of_ble_eq_true rfl) (zO O345.2.1 (tv15 O345.2.1) aw15 rfl) rfl (qI_le (by decide) (e_refuse (d := 0) (r := 1) (q := (sk b n a)) O345.2.1 (by omega) (by omega))) (fun y348 h348 hRy348 => ?_)
    obtain ⟨z348, τ348, O348, fl348⟩ := hRy348
    refine y_iT (c := .eq) (off := 7) (pc' := 24) (len := 3) (r := (0, 0, 0, 0)) (by decide +kernel) (acmpT (c := .eq) (by show _ = _; omega)) (by decide +kernel) ?_
    refine y_ic (c := 0) (len := 1) (r := (0, 0, 0, 0)) (by decide +kernel) (by decide) (fun y349 hy349 => ?_)
    refine y_rI (len := 1) (r := (0, 0, 0, 0)) (nL := 2) (k := 2) (n9 := 2) (hs := []) (by decide +kernel) rfl (zfit_b (by omega) (by omega)).2 ?_
    exact ⟨_, ⟨(aup_trans O345.1 O348.1), O348.2.1, fun k T j hk (hC : k ≠ 15 ∨ j < 3) => ((O348.2.2 k T j (O345.1 _ _ hk) (show k ≠ 15 ∨ j < 4 by omega)).trans (O345.2.2 k T j hk (show k ≠ 15 ∨ j ≠ 3 by omega)))⟩, Or.inr ⟨(by unfold ndd; rw [e345]), by omega, fl348⟩⟩
theorem e_need10 {t n a : Nat} {b : Nat → Int} {τ : List Nat} {h : zh} (hg : hG τ h) (rd : rdC h n a b) (han : a ≤ n) : qI 10 55 [some (.inl (some 15)), some (.inl (some 2000010))] h t (fun y h1 => ∃ τ1, oF (fun k j => k ≠ 15 ∨ j < 3) τ h τ1 h1 ∧ ((∃ a', ndd b n [124, 45] a = .inr a' ∧ a' ≤ n ∧ y.toInt = 1 ∧ rdC h1 n a' b) ∨ (ndd b n [124, 45] a = .inl (1, sk b n a) ∧ y.toInt = 0 ∧ flt h1 1 (sk b n a)))) := by
  obtain ⟨⟨xn, hn, en⟩, ⟨xa, ha, ea⟩, hb, hn2⟩ := id rd
  refine qI_of ?_
  refine y_same (i := .aload_n 0) (len := 1) (r := (0, 0, 0, 0)) (pc' := 1) (ls' := [some (.inl (some 15)), some (.inl (some 2000010))]) (st' := [.inl (some 15)]) (by decide +kernel) (fun k q => by cases q) rfl ?_
  refine y_same (i := .aload_n 1) (len := 1) (r := (0, 0, 0, 0)) (pc' := 2) (ls' := [some (.inl (some 15)), some (.inl (some 2000010))]) (st' := [.inl (some 2000010), .inl (some 15)]) (by decide +kernel) (fun k q => by cases q) rfl ?_
  refine y_cI (i := .invokevirtual 86) (len := 3) (r := (0, 57, 5, 965)) (nL := 4) (k := 2) (n := 2) (hs := []) (args := [.inl (some 15), .inl (some 2000010)]) (rest := []) (l0 := [some (.inl (some 15)), some (.inl (some 2000010)), none, none]) (by decide +kernel) (Or.inr (Or.inl ⟨_, rfl⟩)) rfl rfl rfl rfl (Nat.le_of_ble_eq_true rfl) (zO hg (tv15 hg) aw15 rfl) rfl (qI_le (by decide) (e_sign10 hg rd (by omega))) (fun y350 h350 hRy350 => ?_)
  obtain ⟨τ350, O350, hD350⟩ := hRy350
  rcases hD350 with ⟨a350, e350, le350, y350, r350⟩ | ⟨e350, y350, r350⟩
  ·
    obtain ⟨⟨xn350y, hn350y, en350y⟩, ⟨xa350y, ha350y, ea350y⟩, hb350y, -⟩ := id r350
    refine y_iT (c := .ne) (off := 15) (pc' := 20) (len := 3) (r := (0, 0, 0, 0)) (by decide +kernel) (acmpT (c := .ne) (by show ¬ (_ = _); omega)) (by decide +kernel) ?_
    refine y_ic (c := 1) (len := 1) (r := (0, 0, 0, 0)) (by decide +kernel) (by decide) (fun y351 hy351 => ?_)
    refine y_goto (off := 4) (pc' := 25) (len := 3) (r := (0, 0, 0, 0)) (by decide +kernel) (by decide +kernel) ?_
    refine y_rI (len := 1) (r := (0, 0, 0, 0)) (nL := 2) (k := 2) (n9 := 2) (hs := []) (by decide +kernel) rfl (zfit_b (by omega) (by omega)).2 ?_
    exact ⟨_, ⟨O350.1, O350.2.1, fun k T j hk (hC : k ≠ 15 ∨ j < 3) => (O350.2.2 k T j hk (show k ≠ 15 ∨ j ≠ 3 by omega))⟩, Or.inl ⟨a350, (by unfold ndd; rw [e350]), by omega, by omega, r350⟩⟩
  ·
    have sl350 := sk_le (b := b) (n := n) (a := a) (by omega)
    obtain ⟨⟨xn350n, hn350n, en350n⟩, ⟨xa350n, ha350n, ea350n⟩, hb350n, -⟩ := id r350
    refine y_iF (c := .ne) (off := 15) (len := 3) (r := (0, 0, 0, 0)) (by decide +kernel) (acmpF (c := .ne) (by show _ = _; omega)) ?_
    refine y_same (i := .aload_n 0) (len := 1) (r := (0, 0, 0, 0)) (pc' := 9) (ls' := [some (.inl (some 15)), some (.inl (some 2000010))]) (st' := [.inl (some 15)]) (by decide +kernel) (fun k q => by cases q) rfl ?_
    refine y_ic (c := 1) (len := 1) (r := (0, 0, 0, 0)) (by decide +kernel) (by decide) (fun y352 hy352 => ?_)
    refine y_same (i := .aload_n 0) (len := 1) (r := (0, 0, 0, 0)) (pc' := 11) (ls' := [some (.inl (some 15)), some (.inl (some 2000010))]) (st' := [.inl (some 15), zi y352, .inl (some 15)]) (by decide +kernel) (fun k q => by cases q) rfl ?_
    refine y_get (j := 26) (len := 3) (r := (5, 3, 0, 243)) (by decide +kernel) O350.2.1 (tv15 O350.2.1) aw15 rfl rfl ha350n ?_
    refine y_cI (i := .invokevirtual 147) (len := 3) (r := (0, 61, 5, 1021)) (nL := 3) (k := 2) (n := 3) (hs := []) (args := [.inl (some 15), zi y352, zi xa350n]) (rest := []) (l0 := [some (.inl (some 15)), some (zi y352), some (zi xa350n)]) (by decide +kernel) (Or.inr (Or.inl ⟨_, rfl⟩)) rfl rfl rfl rfl (Nat.le_of_ble_eq_true rfl) (zO O350.2.1 (tv15 O350.2.1) aw15 rfl) rfl (qI_le (by decide) (e_refuse (d := 0) (r := 1) (q := (sk b n a)) O350.2.1 (by omega) (by omega))) (fun y353 h353 hRy353 => ?_)
    obtain ⟨z353, τ353, O353, fl353⟩ := hRy353
    refine y_iT (c := .eq) (off := 7) (pc' := 24) (len := 3) (r := (0, 0, 0, 0)) (by decide +kernel) (acmpT (c := .eq) (by show _ = _; omega)) (by decide +kernel) ?_
    refine y_ic (c := 0) (len := 1) (r := (0, 0, 0, 0)) (by decide +kernel) (by decide) (fun y354 hy354 => ?_)
    refine y_rI (len := 1) (r := (0, 0, 0, 0)) (nL := 2) (k := 2) (n9 := 2) (hs := []) (by decide +kernel) rfl (zfit_b (by omega) (by omega)).2 ?_
    exact ⟨_, ⟨(aup_trans O350.1 O353.1), O353.2.1, fun k T j hk (hC : k ≠ 15 ∨ j < 3) => ((O353.2.2 k T j (O350.1 _ _ hk) (show k ≠ 15 ∨ j < 4 by omega)).trans (O350.2.2 k T j hk (show k ≠ 15 ∨ j ≠ 3 by omega)))⟩, Or.inr ⟨(by unfold ndd; rw [e350]), by omega, fl353⟩⟩
theorem pv_f {b : Nat → Int} {n a : Nat} (h1 : bt b n (sk b n a) ≠ 48) (h2 : ¬ ((97 ≤ bt b n (sk b n a) ∧ bt b n (sk b n a) ≤ 101) ∧ ¬ (97 ≤ bt b n (sk b n a + 1) ∧ bt b n (sk b n a + 1) ≤ 122))) : pvr b n a = .inl (1, sk b n a) := by
  unfold pvr
  rw [if_neg h1, if_neg h2]
theorem pv_0 {b : Nat → Int} {n a : Nat} (h1 : bt b n (sk b n a) = 48) : pvr b n a = .inr (0, sk b n a + 1) := by
  unfold pvr
  rw [if_pos h1]
theorem pv_v {b : Nat → Int} {n a : Nat} (h1 : 97 ≤ bt b n (sk b n a)) (h2 : bt b n (sk b n a) ≤ 101) (h3 : ¬ (97 ≤ bt b n (sk b n a + 1) ∧ bt b n (sk b n a + 1) ≤ 122)) : pvr b n a = .inr (bt b n (sk b n a) - 96, sk b n a + 1) := by
  unfold pvr
  rw [if_neg (by omega), if_pos ⟨⟨h1, h2⟩, h3⟩]
/-- one small letter, by counting -/
theorem cl_1 {b : Nat → Int} {n a : Nat} : cl b n a = 1 ↔ sml (bt b n a) ∧ ¬ sml (bt b n (a + 1)) := by
  constructor
  · intro h
    rcases sml_dec (bt b n a) with q | q
    · refine ⟨q, fun q2 => ?_⟩
      have h1 := (cl_hit q).2
      have h2 := (cl_hit q2).2
      omega
    · have := cl_no q
      omega
  · rintro ⟨q, q2⟩
    rw [(cl_hit q).2, cl_no q2]
theorem cl_0 {b : Nat → Int} {n a : Nat} : cl b n a = 0 ↔ ¬ sml (bt b n a) := by
  constructor
  · intro h q
    have := (cl_hit q).2
    omega
  · exact cl_no
theorem e_var {t n a : Nat} {b : Nat → Int} {τ : List Nat} {h : zh} (hg : hG τ h) (rd : rdC h n a b) (han : a ≤ n) : qI 10 54 [some (.inl (some 15)), none, none] h t (fun y h1 => ∃ τ1, oF (fun k j => k ≠ 15 ∨ j < 3) τ h τ1 h1 ∧ ((∃ (v : Int) (a' : Nat), pvr b n a = .inr (v, a') ∧ a' ≤ n ∧ y.toInt = v ∧ 0 ≤ v ∧ v ≤ 5 ∧ rdC h1 n a' b) ∨ (∃ q, pvr b n a = .inl (1, q) ∧ y.toInt = -1 ∧ flt h1 1 q))) := by
  obtain ⟨⟨xn, hn, en⟩, ⟨xa, ha, ea⟩, hb, hn2⟩ := id rd
  refine qI_of ?_
  refine y_same (i := .aload_n 0) (len := 1) (r := (0, 0, 0, 0)) (pc' := 1) (ls' := [some (.inl (some 15)), none, none]) (st' := [.inl (some 15)]) (by decide +kernel) (fun k q => by cases q) rfl ?_
  refine y_cV (i := .invokevirtual 89) (len := 3) (r := (0, 60, 5, 947)) (nL := 1) (k := 0) (n := 1) (hs := []) (args := [.inl (some 15)]) (rest := []) (l0 := [some (.inl (some 15))]) (by decide +kernel) (Or.inr (Or.inl ⟨_, rfl⟩)) rfl rfl rfl rfl (Nat.le_of_ble_eq_true rfl) (zO hg (tv15 hg) aw15 rfl) rfl (qV_le (by decide) (e_skip hg rd (by omega))) (fun h355 hR355 => ?_)
  obtain ⟨τ355, O355, rd355⟩ := hR355
  have sl355 := sk_le (b := b) (n := n) (a := a) (by omega)
  obtain ⟨⟨xn355, hn355, en355⟩, ⟨xa355, ha355, ea355⟩, hb355, -⟩ := id rd355
  refine y_same (i := .aload_n 0) (len := 1) (r := (0, 0, 0, 0)) (pc' := 5) (ls' := [some (.inl (some 15)), none, none]) (st' := [.inl (some 15)]) (by decide +kernel) (fun k q => by cases q) rfl ?_
  refine y_cI (i := .invokevirtual 155) (len := 3) (r := (0, 59, 5, 951)) (nL := 2) (k := 1) (n := 1) (hs := []) (args := [.inl (some 15)]) (rest := []) (l0 := [some (.inl (some 15)), none]) (by decide +kernel) (Or.inr (Or.inl ⟨_, rfl⟩)) rfl rfl rfl rfl (Nat.le_of_ble_eq_true rfl) (zO O355.2.1 (tv15 O355.2.1) aw15 rfl) rfl (qI_le (by decide) (e_count O355.2.1 rd355 (by omega))) (fun y356 qy356 hRy356 => ?_)
  obtain ⟨rfl, hy356⟩ := hRy356
  have cly356 := cl_le (b := b) (n := n) (a := (sk b n a))
  refine y_same (i := .istore_n 1) (len := 1) (r := (0, 0, 0, 0)) (pc' := 9) (ls' := [some (.inl (some 15)), some (zi y356), none]) (st' := []) (by decide +kernel) (fun k q => by cases q) rfl ?_
  refine y_same (i := .aload_n 0) (len := 1) (r := (0, 0, 0, 0)) (pc' := 10) (ls' := [some (.inl (some 15)), some (zi y356), none]) (st' := [.inl (some 15)]) (by decide +kernel) (fun k q => by cases q) rfl ?_
  refine y_get (j := 26) (len := 3) (r := (5, 3, 0, 243)) (by decide +kernel) O355.2.1 (tv15 O355.2.1) aw15 rfl rfl ha355 ?_
  rcases Decidable.em (xa355.toInt < 0) with q357 | q357
  ·
    refine y_iT (c := .lt) (off := 26) (pc' := 39) (len := 3) (r := (0, 0, 0, 0)) (by decide +kernel) (acmpT (c := .lt) (by show _ < _; omega)) (by decide +kernel) ?_
    refine y_ic (c := (-1)) (len := 1) (r := (0, 0, 0, 0)) (by decide +kernel) (by decide) (fun y358 hy358 => ?_)
    refine y_same (i := .istore_n 2) (len := 1) (r := (0, 0, 0, 0)) (pc' := 41) (ls' := [some (.inl (some 15)), some (zi y356), some (zi y358)]) (st' := []) (by decide +kernel) (fun k q => by cases q) rfl ?_
    refine y_same (i := .iload_n 1) (len := 1) (r := (0, 0, 0, 0)) (pc' := 42) (ls' := [some (.inl (some 15)), some (zi y356), some (zi y358)]) (st' := [zi y356]) (by decide +kernel) (fun k q => by cases q) rfl ?_
    rcases Decidable.em (y356.toInt ≠ 0) with q359 | q359
    ·
      refine y_iT (c := .ne) (off := 21) (pc' := 63) (len := 3) (r := (0, 0, 0, 0)) (by decide +kernel) (acmpT (c := .ne) (by show ¬ (_ = _); omega)) (by decide +kernel) ?_
      refine y_same (i := .iload_n 1) (len := 1) (r := (0, 0, 0, 0)) (pc' := 64) (ls' := [some (.inl (some 15)), some (zi y356), some (zi y358)]) (st' := [zi y356]) (by decide +kernel) (fun k q => by cases q) rfl ?_
      refine y_ic (c := 1) (len := 1) (r := (0, 0, 0, 0)) (by decide +kernel) (by decide) (fun y360 hy360 => ?_)
      rcases Decidable.em (y356.toInt ≠ y360.toInt) with q361 | q361
      ·
        refine y_cT (c := .ne) (off := 32) (pc' := 97) (len := 3) (r := (0, 0, 0, 0)) (by decide +kernel) (acmpT (c := .ne) (by show ¬ (_ = _); omega)) (by decide +kernel) ?_
        refine y_same (i := .aload_n 0) (len := 1) (r := (0, 0, 0, 0)) (pc' := 98) (ls' := [some (.inl (some 15)), some (zi y356), some (zi y358)]) (st' := [.inl (some 15)]) (by decide +kernel) (fun k q => by cases q) rfl ?_
        refine y_ic (c := 1) (len := 1) (r := (0, 0, 0, 0)) (by decide +kernel) (by decide) (fun y362 hy362 => ?_)
        refine y_same (i := .aload_n 0) (len := 1) (r := (0, 0, 0, 0)) (pc' := 100) (ls' := [some (.inl (some 15)), some (zi y356), some (zi y358)]) (st' := [.inl (some 15), zi y362, .inl (some 15)]) (by decide +kernel) (fun k q => by cases q) rfl ?_
        refine y_get (j := 26) (len := 3) (r := (5, 3, 0, 243)) (by decide +kernel) O355.2.1 (tv15 O355.2.1) aw15 rfl rfl ha355 ?_
        refine y_cI (i := .invokevirtual 147) (len := 3) (r := (0, 61, 5, 1021)) (nL := 3) (k := 2) (n := 3) (hs := []) (args := [.inl (some 15), zi y362, zi xa355]) (rest := []) (l0 := [some (.inl (some 15)), some (zi y362), some (zi xa355)]) (by decide +kernel) (Or.inr (Or.inl ⟨_, rfl⟩)) rfl rfl rfl rfl (Nat.le_of_ble_eq_true rfl) (zO O355.2.1 (tv15 O355.2.1) aw15 rfl) rfl (qI_le (by decide) (e_refuse (d := 0) (r := 1) (q := (sk b n a)) O355.2.1 (by omega) (by omega))) (fun y363 h363 hRy363 => ?_)
        obtain ⟨z363, τ363, O363, fl363⟩ := hRy363
        refine y_same (i := .pop) (len := 1) (r := (0, 0, 0, 0)) (pc' := 107) (ls' := [some (.inl (some 15)), some (zi y356), some (zi y358)]) (st' := []) (by decide +kernel) (fun k q => by cases q) rfl ?_
        refine y_ic (c := (-1)) (len := 1) (r := (0, 0, 0, 0)) (by decide +kernel) (by decide) (fun y364 hy364 => ?_)
        refine y_rI (len := 1) (r := (0, 0, 0, 0)) (nL := 3) (k := 1) (n9 := 1) (hs := []) (by decide +kernel) rfl rfl ?_
        have hB : bt b n (sk b n a) = -1 := bt_ge (by omega)
        have c0 := cl_0 (b := b) (n := n) (a := sk b n a)
        have c1 := cl_1 (b := b) (n := n) (a := sk b n a)
        unfold sml at c0 c1
        exact ⟨_, ⟨(aup_trans O355.1 O363.1), O363.2.1, fun k T j hk (hC : k ≠ 15 ∨ j < 3) => ((O363.2.2 k T j (O355.1 _ _ hk) (show k ≠ 15 ∨ j < 4 by omega)).trans (O355.2.2 k T j hk (show k ≠ 15 ∨ j ≠ 3 by omega)))⟩, Or.inr ⟨_, pv_f (by omega) (by omega), by omega, fl363⟩⟩
      ·
        refine y_cF (c := .ne) (off := 32) (len := 3) (r := (0, 0, 0, 0)) (by decide +kernel) (acmpF (c := .ne) (by show _ = _; omega)) ?_
        refine y_same (i := .iload_n 2) (len := 1) (r := (0, 0, 0, 0)) (pc' := 69) (ls' := [some (.inl (some 15)), some (zi y356), some (zi y358)]) (st' := [zi y358]) (by decide +kernel) (fun k q => by cases q) rfl ?_
        refine y_bi (c := 97) (len := 2) (r := (0, 0, 0, 0)) (by decide +kernel) (by decide) (fun y365 hy365 => ?_)
        refine y_cT (c := .lt) (off := 26) (pc' := 97) (len := 3) (r := (0, 0, 0, 0)) (by decide +kernel) (acmpT (c := .lt) (by show _ < _; omega)) (by decide +kernel) ?_
        refine y_same (i := .aload_n 0) (len := 1) (r := (0, 0, 0, 0)) (pc' := 98) (ls' := [some (.inl (some 15)), some (zi y356), some (zi y358)]) (st' := [.inl (some 15)]) (by decide +kernel) (fun k q => by cases q) rfl ?_
        refine y_ic (c := 1) (len := 1) (r := (0, 0, 0, 0)) (by decide +kernel) (by decide) (fun y366 hy366 => ?_)
        refine y_same (i := .aload_n 0) (len := 1) (r := (0, 0, 0, 0)) (pc' := 100) (ls' := [some (.inl (some 15)), some (zi y356), some (zi y358)]) (st' := [.inl (some 15), zi y366, .inl (some 15)]) (by decide +kernel) (fun k q => by cases q) rfl ?_
        refine y_get (j := 26) (len := 3) (r := (5, 3, 0, 243)) (by decide +kernel) O355.2.1 (tv15 O355.2.1) aw15 rfl rfl ha355 ?_
        refine y_cI (i := .invokevirtual 147) (len := 3) (r := (0, 61, 5, 1021)) (nL := 3) (k := 2) (n := 3) (hs := []) (args := [.inl (some 15), zi y366, zi xa355]) (rest := []) (l0 := [some (.inl (some 15)), some (zi y366), some (zi xa355)]) (by decide +kernel) (Or.inr (Or.inl ⟨_, rfl⟩)) rfl rfl rfl rfl (Nat.le_of_ble_eq_true rfl) (zO O355.2.1 (tv15 O355.2.1) aw15 rfl) rfl (qI_le (by decide) (e_refuse (d := 0) (r := 1) (q := (sk b n a)) O355.2.1 (by omega) (by omega))) (fun y367 h367 hRy367 => ?_)
        obtain ⟨z367, τ367, O367, fl367⟩ := hRy367
        refine y_same (i := .pop) (len := 1) (r := (0, 0, 0, 0)) (pc' := 107) (ls' := [some (.inl (some 15)), some (zi y356), some (zi y358)]) (st' := []) (by decide +kernel) (fun k q => by cases q) rfl ?_
        refine y_ic (c := (-1)) (len := 1) (r := (0, 0, 0, 0)) (by decide +kernel) (by decide) (fun y368 hy368 => ?_)
        refine y_rI (len := 1) (r := (0, 0, 0, 0)) (nL := 3) (k := 1) (n9 := 1) (hs := []) (by decide +kernel) rfl rfl ?_
        have hB : bt b n (sk b n a) = -1 := bt_ge (by omega)
        have c0 := cl_0 (b := b) (n := n) (a := sk b n a)
        have c1 := cl_1 (b := b) (n := n) (a := sk b n a)
        unfold sml at c0 c1
        exact ⟨_, ⟨(aup_trans O355.1 O367.1), O367.2.1, fun k T j hk (hC : k ≠ 15 ∨ j < 3) => ((O367.2.2 k T j (O355.1 _ _ hk) (show k ≠ 15 ∨ j < 4 by omega)).trans (O355.2.2 k T j hk (show k ≠ 15 ∨ j ≠ 3 by omega)))⟩, Or.inr ⟨_, pv_f (by omega) (by omega), by omega, fl367⟩⟩
    ·
      refine y_iF (c := .ne) (off := 21) (len := 3) (r := (0, 0, 0, 0)) (by decide +kernel) (acmpF (c := .ne) (by show _ = _; omega)) ?_
      refine y_same (i := .iload_n 2) (len := 1) (r := (0, 0, 0, 0)) (pc' := 46) (ls' := [some (.inl (some 15)), some (zi y356), some (zi y358)]) (st' := [zi y358]) (by decide +kernel) (fun k q => by cases q) rfl ?_
      refine y_bi (c := 48) (len := 2) (r := (0, 0, 0, 0)) (by decide +kernel) (by decide) (fun y369 hy369 => ?_)
      refine y_cT (c := .ne) (off := 15) (pc' := 63) (len := 3) (r := (0, 0, 0, 0)) (by decide +kernel) (acmpT (c := .ne) (by show ¬ (_ = _); omega)) (by decide +kernel) ?_
      refine y_same (i := .iload_n 1) (len := 1) (r := (0, 0, 0, 0)) (pc' := 64) (ls' := [some (.inl (some 15)), some (zi y356), some (zi y358)]) (st' := [zi y356]) (by decide +kernel) (fun k q => by cases q) rfl ?_
      refine y_ic (c := 1) (len := 1) (r := (0, 0, 0, 0)) (by decide +kernel) (by decide) (fun y370 hy370 => ?_)
      rcases Decidable.em (y356.toInt ≠ y370.toInt) with q371 | q371
      ·
        refine y_cT (c := .ne) (off := 32) (pc' := 97) (len := 3) (r := (0, 0, 0, 0)) (by decide +kernel) (acmpT (c := .ne) (by show ¬ (_ = _); omega)) (by decide +kernel) ?_
        refine y_same (i := .aload_n 0) (len := 1) (r := (0, 0, 0, 0)) (pc' := 98) (ls' := [some (.inl (some 15)), some (zi y356), some (zi y358)]) (st' := [.inl (some 15)]) (by decide +kernel) (fun k q => by cases q) rfl ?_
        refine y_ic (c := 1) (len := 1) (r := (0, 0, 0, 0)) (by decide +kernel) (by decide) (fun y372 hy372 => ?_)
        refine y_same (i := .aload_n 0) (len := 1) (r := (0, 0, 0, 0)) (pc' := 100) (ls' := [some (.inl (some 15)), some (zi y356), some (zi y358)]) (st' := [.inl (some 15), zi y372, .inl (some 15)]) (by decide +kernel) (fun k q => by cases q) rfl ?_
        refine y_get (j := 26) (len := 3) (r := (5, 3, 0, 243)) (by decide +kernel) O355.2.1 (tv15 O355.2.1) aw15 rfl rfl ha355 ?_
        refine y_cI (i := .invokevirtual 147) (len := 3) (r := (0, 61, 5, 1021)) (nL := 3) (k := 2) (n := 3) (hs := []) (args := [.inl (some 15), zi y372, zi xa355]) (rest := []) (l0 := [some (.inl (some 15)), some (zi y372), some (zi xa355)]) (by decide +kernel) (Or.inr (Or.inl ⟨_, rfl⟩)) rfl rfl rfl rfl (Nat.le_of_ble_eq_true rfl) (zO O355.2.1 (tv15 O355.2.1) aw15 rfl) rfl (qI_le (by decide) (e_refuse (d := 0) (r := 1) (q := (sk b n a)) O355.2.1 (by omega) (by omega))) (fun y373 h373 hRy373 => ?_)
        obtain ⟨z373, τ373, O373, fl373⟩ := hRy373
        refine y_same (i := .pop) (len := 1) (r := (0, 0, 0, 0)) (pc' := 107) (ls' := [some (.inl (some 15)), some (zi y356), some (zi y358)]) (st' := []) (by decide +kernel) (fun k q => by cases q) rfl ?_
        refine y_ic (c := (-1)) (len := 1) (r := (0, 0, 0, 0)) (by decide +kernel) (by decide) (fun y374 hy374 => ?_)
        refine y_rI (len := 1) (r := (0, 0, 0, 0)) (nL := 3) (k := 1) (n9 := 1) (hs := []) (by decide +kernel) rfl rfl ?_
        have hB : bt b n (sk b n a) = -1 := bt_ge (by omega)
        have c0 := cl_0 (b := b) (n := n) (a := sk b n a)
        have c1 := cl_1 (b := b) (n := n) (a := sk b n a)
        unfold sml at c0 c1
        exact ⟨_, ⟨(aup_trans O355.1 O373.1), O373.2.1, fun k T j hk (hC : k ≠ 15 ∨ j < 3) => ((O373.2.2 k T j (O355.1 _ _ hk) (show k ≠ 15 ∨ j < 4 by omega)).trans (O355.2.2 k T j hk (show k ≠ 15 ∨ j ≠ 3 by omega)))⟩, Or.inr ⟨_, pv_f (by omega) (by omega), by omega, fl373⟩⟩
      ·
        refine y_cF (c := .ne) (off := 32) (len := 3) (r := (0, 0, 0, 0)) (by decide +kernel) (acmpF (c := .ne) (by show _ = _; omega)) ?_
        refine y_same (i := .iload_n 2) (len := 1) (r := (0, 0, 0, 0)) (pc' := 69) (ls' := [some (.inl (some 15)), some (zi y356), some (zi y358)]) (st' := [zi y358]) (by decide +kernel) (fun k q => by cases q) rfl ?_
        refine y_bi (c := 97) (len := 2) (r := (0, 0, 0, 0)) (by decide +kernel) (by decide) (fun y375 hy375 => ?_)
        refine y_cT (c := .lt) (off := 26) (pc' := 97) (len := 3) (r := (0, 0, 0, 0)) (by decide +kernel) (acmpT (c := .lt) (by show _ < _; omega)) (by decide +kernel) ?_
        refine y_same (i := .aload_n 0) (len := 1) (r := (0, 0, 0, 0)) (pc' := 98) (ls' := [some (.inl (some 15)), some (zi y356), some (zi y358)]) (st' := [.inl (some 15)]) (by decide +kernel) (fun k q => by cases q) rfl ?_
        refine y_ic (c := 1) (len := 1) (r := (0, 0, 0, 0)) (by decide +kernel) (by decide) (fun y376 hy376 => ?_)
        refine y_same (i := .aload_n 0) (len := 1) (r := (0, 0, 0, 0)) (pc' := 100) (ls' := [some (.inl (some 15)), some (zi y356), some (zi y358)]) (st' := [.inl (some 15), zi y376, .inl (some 15)]) (by decide +kernel) (fun k q => by cases q) rfl ?_
        refine y_get (j := 26) (len := 3) (r := (5, 3, 0, 243)) (by decide +kernel) O355.2.1 (tv15 O355.2.1) aw15 rfl rfl ha355 ?_
        refine y_cI (i := .invokevirtual 147) (len := 3) (r := (0, 61, 5, 1021)) (nL := 3) (k := 2) (n := 3) (hs := []) (args := [.inl (some 15), zi y376, zi xa355]) (rest := []) (l0 := [some (.inl (some 15)), some (zi y376), some (zi xa355)]) (by decide +kernel) (Or.inr (Or.inl ⟨_, rfl⟩)) rfl rfl rfl rfl (Nat.le_of_ble_eq_true rfl) (zO O355.2.1 (tv15 O355.2.1) aw15 rfl) rfl (qI_le (by decide) (e_refuse (d := 0) (r := 1) (q := (sk b n a)) O355.2.1 (by omega) (by omega))) (fun y377 h377 hRy377 => ?_)
        obtain ⟨z377, τ377, O377, fl377⟩ := hRy377
        refine y_same (i := .pop) (len := 1) (r := (0, 0, 0, 0)) (pc' := 107) (ls' := [some (.inl (some 15)), some (zi y356), some (zi y358)]) (st' := []) (by decide +kernel) (fun k q => by cases q) rfl ?_
        refine y_ic (c := (-1)) (len := 1) (r := (0, 0, 0, 0)) (by decide +kernel) (by decide) (fun y378 hy378 => ?_)
        refine y_rI (len := 1) (r := (0, 0, 0, 0)) (nL := 3) (k := 1) (n9 := 1) (hs := []) (by decide +kernel) rfl rfl ?_
        have hB : bt b n (sk b n a) = -1 := bt_ge (by omega)
        have c0 := cl_0 (b := b) (n := n) (a := sk b n a)
        have c1 := cl_1 (b := b) (n := n) (a := sk b n a)
        unfold sml at c0 c1
        exact ⟨_, ⟨(aup_trans O355.1 O377.1), O377.2.1, fun k T j hk (hC : k ≠ 15 ∨ j < 3) => ((O377.2.2 k T j (O355.1 _ _ hk) (show k ≠ 15 ∨ j < 4 by omega)).trans (O355.2.2 k T j hk (show k ≠ 15 ∨ j ≠ 3 by omega)))⟩, Or.inr ⟨_, pv_f (by omega) (by omega), by omega, fl377⟩⟩
  ·
    refine y_iF (c := .lt) (off := 26) (len := 3) (r := (0, 0, 0, 0)) (by decide +kernel) (acmpF (c := .lt) (by show _ ≤ _; omega)) ?_
    refine y_same (i := .aload_n 0) (len := 1) (r := (0, 0, 0, 0)) (pc' := 17) (ls' := [some (.inl (some 15)), some (zi y356), none]) (st' := [.inl (some 15)]) (by decide +kernel) (fun k q => by cases q) rfl ?_
    refine y_get (j := 26) (len := 3) (r := (5, 3, 0, 243)) (by decide +kernel) O355.2.1 (tv15 O355.2.1) aw15 rfl rfl ha355 ?_
    refine y_same (i := .aload_n 0) (len := 1) (r := (0, 0, 0, 0)) (pc' := 21) (ls' := [some (.inl (some 15)), some (zi y356), none]) (st' := [.inl (some 15), zi xa355]) (by decide +kernel) (fun k q => by cases q) rfl ?_
    refine y_get (j := 22) (len := 3) (r := (5, 2, 0, 242)) (by decide +kernel) O355.2.1 (tv15 O355.2.1) aw15 rfl rfl hn355 ?_
    rcases Decidable.em (xa355.toInt ≥ xn355.toInt) with q379 | q379
    ·
      refine y_cT (c := .ge) (off := 15) (pc' := 39) (len := 3) (r := (0, 0, 0, 0)) (by decide +kernel) (acmpT (c := .ge) (by show _ ≤ _; omega)) (by decide +kernel) ?_
      refine y_ic (c := (-1)) (len := 1) (r := (0, 0, 0, 0)) (by decide +kernel) (by decide) (fun y380 hy380 => ?_)
      refine y_same (i := .istore_n 2) (len := 1) (r := (0, 0, 0, 0)) (pc' := 41) (ls' := [some (.inl (some 15)), some (zi y356), some (zi y380)]) (st' := []) (by decide +kernel) (fun k q => by cases q) rfl ?_
      refine y_same (i := .iload_n 1) (len := 1) (r := (0, 0, 0, 0)) (pc' := 42) (ls' := [some (.inl (some 15)), some (zi y356), some (zi y380)]) (st' := [zi y356]) (by decide +kernel) (fun k q => by cases q) rfl ?_
      rcases Decidable.em (y356.toInt ≠ 0) with q381 | q381
      ·
        refine y_iT (c := .ne) (off := 21) (pc' := 63) (len := 3) (r := (0, 0, 0, 0)) (by decide +kernel) (acmpT (c := .ne) (by show ¬ (_ = _); omega)) (by decide +kernel) ?_
        refine y_same (i := .iload_n 1) (len := 1) (r := (0, 0, 0, 0)) (pc' := 64) (ls' := [some (.inl (some 15)), some (zi y356), some (zi y380)]) (st' := [zi y356]) (by decide +kernel) (fun k q => by cases q) rfl ?_
        refine y_ic (c := 1) (len := 1) (r := (0, 0, 0, 0)) (by decide +kernel) (by decide) (fun y382 hy382 => ?_)
        rcases Decidable.em (y356.toInt ≠ y382.toInt) with q383 | q383
        ·
          refine y_cT (c := .ne) (off := 32) (pc' := 97) (len := 3) (r := (0, 0, 0, 0)) (by decide +kernel) (acmpT (c := .ne) (by show ¬ (_ = _); omega)) (by decide +kernel) ?_
          refine y_same (i := .aload_n 0) (len := 1) (r := (0, 0, 0, 0)) (pc' := 98) (ls' := [some (.inl (some 15)), some (zi y356), some (zi y380)]) (st' := [.inl (some 15)]) (by decide +kernel) (fun k q => by cases q) rfl ?_
          refine y_ic (c := 1) (len := 1) (r := (0, 0, 0, 0)) (by decide +kernel) (by decide) (fun y384 hy384 => ?_)
          refine y_same (i := .aload_n 0) (len := 1) (r := (0, 0, 0, 0)) (pc' := 100) (ls' := [some (.inl (some 15)), some (zi y356), some (zi y380)]) (st' := [.inl (some 15), zi y384, .inl (some 15)]) (by decide +kernel) (fun k q => by cases q) rfl ?_
          refine y_get (j := 26) (len := 3) (r := (5, 3, 0, 243)) (by decide +kernel) O355.2.1 (tv15 O355.2.1) aw15 rfl rfl ha355 ?_
          refine y_cI (i := .invokevirtual 147) (len := 3) (r := (0, 61, 5, 1021)) (nL := 3) (k := 2) (n := 3) (hs := []) (args := [.inl (some 15), zi y384, zi xa355]) (rest := []) (l0 := [some (.inl (some 15)), some (zi y384), some (zi xa355)]) (by decide +kernel) (Or.inr (Or.inl ⟨_, rfl⟩)) rfl rfl rfl rfl (Nat.le_of_ble_eq_true rfl) (zO O355.2.1 (tv15 O355.2.1) aw15 rfl) rfl (qI_le (by decide) (e_refuse (d := 0) (r := 1) (q := (sk b n a)) O355.2.1 (by omega) (by omega))) (fun y385 h385 hRy385 => ?_)
          obtain ⟨z385, τ385, O385, fl385⟩ := hRy385
          refine y_same (i := .pop) (len := 1) (r := (0, 0, 0, 0)) (pc' := 107) (ls' := [some (.inl (some 15)), some (zi y356), some (zi y380)]) (st' := []) (by decide +kernel) (fun k q => by cases q) rfl ?_
          refine y_ic (c := (-1)) (len := 1) (r := (0, 0, 0, 0)) (by decide +kernel) (by decide) (fun y386 hy386 => ?_)
          refine y_rI (len := 1) (r := (0, 0, 0, 0)) (nL := 3) (k := 1) (n9 := 1) (hs := []) (by decide +kernel) rfl rfl ?_
          have hB : bt b n (sk b n a) = -1 := bt_ge (by omega)
          have c0 := cl_0 (b := b) (n := n) (a := sk b n a)
          have c1 := cl_1 (b := b) (n := n) (a := sk b n a)
          unfold sml at c0 c1
          exact ⟨_, ⟨(aup_trans O355.1 O385.1), O385.2.1, fun k T j hk (hC : k ≠ 15 ∨ j < 3) => ((O385.2.2 k T j (O355.1 _ _ hk) (show k ≠ 15 ∨ j < 4 by omega)).trans (O355.2.2 k T j hk (show k ≠ 15 ∨ j ≠ 3 by omega)))⟩, Or.inr ⟨_, pv_f (by omega) (by omega), by omega, fl385⟩⟩
        ·
          refine y_cF (c := .ne) (off := 32) (len := 3) (r := (0, 0, 0, 0)) (by decide +kernel) (acmpF (c := .ne) (by show _ = _; omega)) ?_
          refine y_same (i := .iload_n 2) (len := 1) (r := (0, 0, 0, 0)) (pc' := 69) (ls' := [some (.inl (some 15)), some (zi y356), some (zi y380)]) (st' := [zi y380]) (by decide +kernel) (fun k q => by cases q) rfl ?_
          refine y_bi (c := 97) (len := 2) (r := (0, 0, 0, 0)) (by decide +kernel) (by decide) (fun y387 hy387 => ?_)
          refine y_cT (c := .lt) (off := 26) (pc' := 97) (len := 3) (r := (0, 0, 0, 0)) (by decide +kernel) (acmpT (c := .lt) (by show _ < _; omega)) (by decide +kernel) ?_
          refine y_same (i := .aload_n 0) (len := 1) (r := (0, 0, 0, 0)) (pc' := 98) (ls' := [some (.inl (some 15)), some (zi y356), some (zi y380)]) (st' := [.inl (some 15)]) (by decide +kernel) (fun k q => by cases q) rfl ?_
          refine y_ic (c := 1) (len := 1) (r := (0, 0, 0, 0)) (by decide +kernel) (by decide) (fun y388 hy388 => ?_)
          refine y_same (i := .aload_n 0) (len := 1) (r := (0, 0, 0, 0)) (pc' := 100) (ls' := [some (.inl (some 15)), some (zi y356), some (zi y380)]) (st' := [.inl (some 15), zi y388, .inl (some 15)]) (by decide +kernel) (fun k q => by cases q) rfl ?_
          refine y_get (j := 26) (len := 3) (r := (5, 3, 0, 243)) (by decide +kernel) O355.2.1 (tv15 O355.2.1) aw15 rfl rfl ha355 ?_
          refine y_cI (i := .invokevirtual 147) (len := 3) (r := (0, 61, 5, 1021)) (nL := 3) (k := 2) (n := 3) (hs := []) (args := [.inl (some 15), zi y388, zi xa355]) (rest := []) (l0 := [some (.inl (some 15)), some (zi y388), some (zi xa355)]) (by decide +kernel) (Or.inr (Or.inl ⟨_, rfl⟩)) rfl rfl rfl rfl (Nat.le_of_ble_eq_true rfl) (zO O355.2.1 (tv15 O355.2.1) aw15 rfl) rfl (qI_le (by decide) (e_refuse (d := 0) (r := 1) (q := (sk b n a)) O355.2.1 (by omega) (by omega))) (fun y389 h389 hRy389 => ?_)
          obtain ⟨z389, τ389, O389, fl389⟩ := hRy389
          refine y_same (i := .pop) (len := 1) (r := (0, 0, 0, 0)) (pc' := 107) (ls' := [some (.inl (some 15)), some (zi y356), some (zi y380)]) (st' := []) (by decide +kernel) (fun k q => by cases q) rfl ?_
          refine y_ic (c := (-1)) (len := 1) (r := (0, 0, 0, 0)) (by decide +kernel) (by decide) (fun y390 hy390 => ?_)
          refine y_rI (len := 1) (r := (0, 0, 0, 0)) (nL := 3) (k := 1) (n9 := 1) (hs := []) (by decide +kernel) rfl rfl ?_
          have hB : bt b n (sk b n a) = -1 := bt_ge (by omega)
          have c0 := cl_0 (b := b) (n := n) (a := sk b n a)
          have c1 := cl_1 (b := b) (n := n) (a := sk b n a)
          unfold sml at c0 c1
          exact ⟨_, ⟨(aup_trans O355.1 O389.1), O389.2.1, fun k T j hk (hC : k ≠ 15 ∨ j < 3) => ((O389.2.2 k T j (O355.1 _ _ hk) (show k ≠ 15 ∨ j < 4 by omega)).trans (O355.2.2 k T j hk (show k ≠ 15 ∨ j ≠ 3 by omega)))⟩, Or.inr ⟨_, pv_f (by omega) (by omega), by omega, fl389⟩⟩
      ·
        refine y_iF (c := .ne) (off := 21) (len := 3) (r := (0, 0, 0, 0)) (by decide +kernel) (acmpF (c := .ne) (by show _ = _; omega)) ?_
        refine y_same (i := .iload_n 2) (len := 1) (r := (0, 0, 0, 0)) (pc' := 46) (ls' := [some (.inl (some 15)), some (zi y356), some (zi y380)]) (st' := [zi y380]) (by decide +kernel) (fun k q => by cases q) rfl ?_
        refine y_bi (c := 48) (len := 2) (r := (0, 0, 0, 0)) (by decide +kernel) (by decide) (fun y391 hy391 => ?_)
        refine y_cT (c := .ne) (off := 15) (pc' := 63) (len := 3) (r := (0, 0, 0, 0)) (by decide +kernel) (acmpT (c := .ne) (by show ¬ (_ = _); omega)) (by decide +kernel) ?_
        refine y_same (i := .iload_n 1) (len := 1) (r := (0, 0, 0, 0)) (pc' := 64) (ls' := [some (.inl (some 15)), some (zi y356), some (zi y380)]) (st' := [zi y356]) (by decide +kernel) (fun k q => by cases q) rfl ?_
        refine y_ic (c := 1) (len := 1) (r := (0, 0, 0, 0)) (by decide +kernel) (by decide) (fun y392 hy392 => ?_)
        rcases Decidable.em (y356.toInt ≠ y392.toInt) with q393 | q393
        ·
          refine y_cT (c := .ne) (off := 32) (pc' := 97) (len := 3) (r := (0, 0, 0, 0)) (by decide +kernel) (acmpT (c := .ne) (by show ¬ (_ = _); omega)) (by decide +kernel) ?_
          refine y_same (i := .aload_n 0) (len := 1) (r := (0, 0, 0, 0)) (pc' := 98) (ls' := [some (.inl (some 15)), some (zi y356), some (zi y380)]) (st' := [.inl (some 15)]) (by decide +kernel) (fun k q => by cases q) rfl ?_
          refine y_ic (c := 1) (len := 1) (r := (0, 0, 0, 0)) (by decide +kernel) (by decide) (fun y394 hy394 => ?_)
          refine y_same (i := .aload_n 0) (len := 1) (r := (0, 0, 0, 0)) (pc' := 100) (ls' := [some (.inl (some 15)), some (zi y356), some (zi y380)]) (st' := [.inl (some 15), zi y394, .inl (some 15)]) (by decide +kernel) (fun k q => by cases q) rfl ?_
          refine y_get (j := 26) (len := 3) (r := (5, 3, 0, 243)) (by decide +kernel) O355.2.1 (tv15 O355.2.1) aw15 rfl rfl ha355 ?_
          refine y_cI (i := .invokevirtual 147) (len := 3) (r := (0, 61, 5, 1021)) (nL := 3) (k := 2) (n := 3) (hs := []) (args := [.inl (some 15), zi y394, zi xa355]) (rest := []) (l0 := [some (.inl (some 15)), some (zi y394), some (zi xa355)]) (by decide +kernel) (Or.inr (Or.inl ⟨_, rfl⟩)) rfl rfl rfl rfl (Nat.le_of_ble_eq_true rfl) (zO O355.2.1 (tv15 O355.2.1) aw15 rfl) rfl (qI_le (by decide) (e_refuse (d := 0) (r := 1) (q := (sk b n a)) O355.2.1 (by omega) (by omega))) (fun y395 h395 hRy395 => ?_)
          obtain ⟨z395, τ395, O395, fl395⟩ := hRy395
          refine y_same (i := .pop) (len := 1) (r := (0, 0, 0, 0)) (pc' := 107) (ls' := [some (.inl (some 15)), some (zi y356), some (zi y380)]) (st' := []) (by decide +kernel) (fun k q => by cases q) rfl ?_
          refine y_ic (c := (-1)) (len := 1) (r := (0, 0, 0, 0)) (by decide +kernel) (by decide) (fun y396 hy396 => ?_)
          refine y_rI (len := 1) (r := (0, 0, 0, 0)) (nL := 3) (k := 1) (n9 := 1) (hs := []) (by decide +kernel) rfl rfl ?_
          have hB : bt b n (sk b n a) = -1 := bt_ge (by omega)
          have c0 := cl_0 (b := b) (n := n) (a := sk b n a)
          have c1 := cl_1 (b := b) (n := n) (a := sk b n a)
          unfold sml at c0 c1
          exact ⟨_, ⟨(aup_trans O355.1 O395.1), O395.2.1, fun k T j hk (hC : k ≠ 15 ∨ j < 3) => ((O395.2.2 k T j (O355.1 _ _ hk) (show k ≠ 15 ∨ j < 4 by omega)).trans (O355.2.2 k T j hk (show k ≠ 15 ∨ j ≠ 3 by omega)))⟩, Or.inr ⟨_, pv_f (by omega) (by omega), by omega, fl395⟩⟩
        ·
          refine y_cF (c := .ne) (off := 32) (len := 3) (r := (0, 0, 0, 0)) (by decide +kernel) (acmpF (c := .ne) (by show _ = _; omega)) ?_
          refine y_same (i := .iload_n 2) (len := 1) (r := (0, 0, 0, 0)) (pc' := 69) (ls' := [some (.inl (some 15)), some (zi y356), some (zi y380)]) (st' := [zi y380]) (by decide +kernel) (fun k q => by cases q) rfl ?_
          refine y_bi (c := 97) (len := 2) (r := (0, 0, 0, 0)) (by decide +kernel) (by decide) (fun y397 hy397 => ?_)
          refine y_cT (c := .lt) (off := 26) (pc' := 97) (len := 3) (r := (0, 0, 0, 0)) (by decide +kernel) (acmpT (c := .lt) (by show _ < _; omega)) (by decide +kernel) ?_
          refine y_same (i := .aload_n 0) (len := 1) (r := (0, 0, 0, 0)) (pc' := 98) (ls' := [some (.inl (some 15)), some (zi y356), some (zi y380)]) (st' := [.inl (some 15)]) (by decide +kernel) (fun k q => by cases q) rfl ?_
          refine y_ic (c := 1) (len := 1) (r := (0, 0, 0, 0)) (by decide +kernel) (by decide) (fun y398 hy398 => ?_)
          refine y_same (i := .aload_n 0) (len := 1) (r := (0, 0, 0, 0)) (pc' := 100) (ls' := [some (.inl (some 15)), some (zi y356), some (zi y380)]) (st' := [.inl (some 15), zi y398, .inl (some 15)]) (by decide +kernel) (fun k q => by cases q) rfl ?_
          refine y_get (j := 26) (len := 3) (r := (5, 3, 0, 243)) (by decide +kernel) O355.2.1 (tv15 O355.2.1) aw15 rfl rfl ha355 ?_
          refine y_cI (i := .invokevirtual 147) (len := 3) (r := (0, 61, 5, 1021)) (nL := 3) (k := 2) (n := 3) (hs := []) (args := [.inl (some 15), zi y398, zi xa355]) (rest := []) (l0 := [some (.inl (some 15)), some (zi y398), some (zi xa355)]) (by decide +kernel) (Or.inr (Or.inl ⟨_, rfl⟩)) rfl rfl rfl rfl (Nat.le_of_ble_eq_true rfl) (zO O355.2.1 (tv15 O355.2.1) aw15 rfl) rfl (qI_le (by decide) (e_refuse (d := 0) (r := 1) (q := (sk b n a)) O355.2.1 (by omega) (by omega))) (fun y399 h399 hRy399 => ?_)
          obtain ⟨z399, τ399, O399, fl399⟩ := hRy399
          refine y_same (i := .pop) (len := 1) (r := (0, 0, 0, 0)) (pc' := 107) (ls' := [some (.inl (some 15)), some (zi y356), some (zi y380)]) (st' := []) (by decide +kernel) (fun k q => by cases q) rfl ?_
          refine y_ic (c := (-1)) (len := 1) (r := (0, 0, 0, 0)) (by decide +kernel) (by decide) (fun y400 hy400 => ?_)
          refine y_rI (len := 1) (r := (0, 0, 0, 0)) (nL := 3) (k := 1) (n9 := 1) (hs := []) (by decide +kernel) rfl rfl ?_
          have hB : bt b n (sk b n a) = -1 := bt_ge (by omega)
          have c0 := cl_0 (b := b) (n := n) (a := sk b n a)
          have c1 := cl_1 (b := b) (n := n) (a := sk b n a)
          unfold sml at c0 c1
          exact ⟨_, ⟨(aup_trans O355.1 O399.1), O399.2.1, fun k T j hk (hC : k ≠ 15 ∨ j < 3) => ((O399.2.2 k T j (O355.1 _ _ hk) (show k ≠ 15 ∨ j < 4 by omega)).trans (O355.2.2 k T j hk (show k ≠ 15 ∨ j ≠ 3 by omega)))⟩, Or.inr ⟨_, pv_f (by omega) (by omega), by omega, fl399⟩⟩
    ·
      refine y_cF (c := .ge) (off := 15) (len := 3) (r := (0, 0, 0, 0)) (by decide +kernel) (acmpF (c := .ge) (by show _ < _; omega)) ?_
      refine y_same (i := .aload_n 0) (len := 1) (r := (0, 0, 0, 0)) (pc' := 28) (ls' := [some (.inl (some 15)), some (zi y356), none]) (st' := [.inl (some 15)]) (by decide +kernel) (fun k q => by cases q) rfl ?_
      refine y_get (j := 18) (len := 3) (r := (5, 1, 2, 241)) (by decide +kernel) O355.2.1 (tv15 O355.2.1) aw15 rfl rfl (g_rU (f := 1) (T2 := 27) O355.2.1 (tv15 O355.2.1) aw15 rfl (by decide)) ?_
      refine y_same (i := .aload_n 0) (len := 1) (r := (0, 0, 0, 0)) (pc' := 32) (ls' := [some (.inl (some 15)), some (zi y356), none]) (st' := [.inl (some 15), .inl (some 27)]) (by decide +kernel) (fun k q => by cases q) rfl ?_
      refine y_get (j := 26) (len := 3) (r := (5, 3, 0, 243)) (by decide +kernel) O355.2.1 (tv15 O355.2.1) aw15 rfl rfl ha355 ?_
      obtain ⟨v401, hv402, ev401⟩ := hb355 (sk b n a) (by omega)
      refine y_ial (i := (sk b n a)) (len := 1) (r := (0, 0, 0, 0)) (by decide +kernel) O355.2.1 (tv27 O355.2.1) aw27 (by omega) hv402 ?_
      refine y_goto (off := 4) (pc' := 40) (len := 3) (r := (0, 0, 0, 0)) (by decide +kernel) (by decide +kernel) ?_
      refine y_same (i := .istore_n 2) (len := 1) (r := (0, 0, 0, 0)) (pc' := 41) (ls' := [some (.inl (some 15)), some (zi y356), some (zi v401)]) (st' := []) (by decide +kernel) (fun k q => by cases q) rfl ?_
      refine y_same (i := .iload_n 1) (len := 1) (r := (0, 0, 0, 0)) (pc' := 42) (ls' := [some (.inl (some 15)), some (zi y356), some (zi v401)]) (st' := [zi y356]) (by decide +kernel) (fun k q => by cases q) rfl ?_
      rcases Decidable.em (y356.toInt ≠ 0) with q403 | q403
      ·
        refine y_iT (c := .ne) (off := 21) (pc' := 63) (len := 3) (r := (0, 0, 0, 0)) (by decide +kernel) (acmpT (c := .ne) (by show ¬ (_ = _); omega)) (by decide +kernel) ?_
        refine y_same (i := .iload_n 1) (len := 1) (r := (0, 0, 0, 0)) (pc' := 64) (ls' := [some (.inl (some 15)), some (zi y356), some (zi v401)]) (st' := [zi y356]) (by decide +kernel) (fun k q => by cases q) rfl ?_
        refine y_ic (c := 1) (len := 1) (r := (0, 0, 0, 0)) (by decide +kernel) (by decide) (fun y404 hy404 => ?_)
        rcases Decidable.em (y356.toInt ≠ y404.toInt) with q405 | q405
        ·
          refine y_cT (c := .ne) (off := 32) (pc' := 97) (len := 3) (r := (0, 0, 0, 0)) (by decide +kernel) (acmpT (c := .ne) (by show ¬ (_ = _); omega)) (by decide +kernel) ?_
          refine y_same (i := .aload_n 0) (len := 1) (r := (0, 0, 0, 0)) (pc' := 98) (ls' := [some (.inl (some 15)), some (zi y356), some (zi v401)]) (st' := [.inl (some 15)]) (by decide +kernel) (fun k q => by cases q) rfl ?_
          refine y_ic (c := 1) (len := 1) (r := (0, 0, 0, 0)) (by decide +kernel) (by decide) (fun y406 hy406 => ?_)
          refine y_same (i := .aload_n 0) (len := 1) (r := (0, 0, 0, 0)) (pc' := 100) (ls' := [some (.inl (some 15)), some (zi y356), some (zi v401)]) (st' := [.inl (some 15), zi y406, .inl (some 15)]) (by decide +kernel) (fun k q => by cases q) rfl ?_
          refine y_get (j := 26) (len := 3) (r := (5, 3, 0, 243)) (by decide +kernel) O355.2.1 (tv15 O355.2.1) aw15 rfl rfl ha355 ?_
          refine y_cI (i := .invokevirtual 147) (len := 3) (r := (0, 61, 5, 1021)) (nL := 3) (k := 2) (n := 3) (hs := []) (args := [.inl (some 15), zi y406, zi xa355]) (rest := []) (l0 := [some (.inl (some 15)), some (zi y406), some (zi xa355)]) (by decide +kernel) (Or.inr (Or.inl ⟨_, rfl⟩)) rfl rfl rfl rfl (Nat.le_of_ble_eq_true rfl) (zO O355.2.1 (tv15 O355.2.1) aw15 rfl) rfl (qI_le (by decide) (e_refuse (d := 0) (r := 1) (q := (sk b n a)) O355.2.1 (by omega) (by omega))) (fun y407 h407 hRy407 => ?_)
          obtain ⟨z407, τ407, O407, fl407⟩ := hRy407
          refine y_same (i := .pop) (len := 1) (r := (0, 0, 0, 0)) (pc' := 107) (ls' := [some (.inl (some 15)), some (zi y356), some (zi v401)]) (st' := []) (by decide +kernel) (fun k q => by cases q) rfl ?_
          refine y_ic (c := (-1)) (len := 1) (r := (0, 0, 0, 0)) (by decide +kernel) (by decide) (fun y408 hy408 => ?_)
          refine y_rI (len := 1) (r := (0, 0, 0, 0)) (nL := 3) (k := 1) (n9 := 1) (hs := []) (by decide +kernel) rfl rfl ?_
          have hB : bt b n (sk b n a) = b (sk b n a) := bt_lt (by omega)
          have c0 := cl_0 (b := b) (n := n) (a := sk b n a)
          have c1 := cl_1 (b := b) (n := n) (a := sk b n a)
          unfold sml at c0 c1
          exact ⟨_, ⟨(aup_trans O355.1 O407.1), O407.2.1, fun k T j hk (hC : k ≠ 15 ∨ j < 3) => ((O407.2.2 k T j (O355.1 _ _ hk) (show k ≠ 15 ∨ j < 4 by omega)).trans (O355.2.2 k T j hk (show k ≠ 15 ∨ j ≠ 3 by omega)))⟩, Or.inr ⟨_, pv_f (by omega) (by omega), by omega, fl407⟩⟩
        ·
          refine y_cF (c := .ne) (off := 32) (len := 3) (r := (0, 0, 0, 0)) (by decide +kernel) (acmpF (c := .ne) (by show _ = _; omega)) ?_
          refine y_same (i := .iload_n 2) (len := 1) (r := (0, 0, 0, 0)) (pc' := 69) (ls' := [some (.inl (some 15)), some (zi y356), some (zi v401)]) (st' := [zi v401]) (by decide +kernel) (fun k q => by cases q) rfl ?_
          refine y_bi (c := 97) (len := 2) (r := (0, 0, 0, 0)) (by decide +kernel) (by decide) (fun y409 hy409 => ?_)
          rcases Decidable.em (v401.toInt < y409.toInt) with q410 | q410
          ·
            refine y_cT (c := .lt) (off := 26) (pc' := 97) (len := 3) (r := (0, 0, 0, 0)) (by decide +kernel) (acmpT (c := .lt) (by show _ < _; omega)) (by decide +kernel) ?_
            refine y_same (i := .aload_n 0) (len := 1) (r := (0, 0, 0, 0)) (pc' := 98) (ls' := [some (.inl (some 15)), some (zi y356), some (zi v401)]) (st' := [.inl (some 15)]) (by decide +kernel) (fun k q => by cases q) rfl ?_
            refine y_ic (c := 1) (len := 1) (r := (0, 0, 0, 0)) (by decide +kernel) (by decide) (fun y411 hy411 => ?_)
            refine y_same (i := .aload_n 0) (len := 1) (r := (0, 0, 0, 0)) (pc' := 100) (ls' := [some (.inl (some 15)), some (zi y356), some (zi v401)]) (st' := [.inl (some 15), zi y411, .inl (some 15)]) (by decide +kernel) (fun k q => by cases q) rfl ?_
            refine y_get (j := 26) (len := 3) (r := (5, 3, 0, 243)) (by decide +kernel) O355.2.1 (tv15 O355.2.1) aw15 rfl rfl ha355 ?_
            refine y_cI (i := .invokevirtual 147) (len := 3) (r := (0, 61, 5, 1021)) (nL := 3) (k := 2) (n := 3) (hs := []) (args := [.inl (some 15), zi y411, zi xa355]) (rest := []) (l0 := [some (.inl (some 15)), some (zi y411), some (zi xa355)]) (by decide +kernel) (Or.inr (Or.inl ⟨_, rfl⟩)) rfl rfl rfl rfl (Nat.le_of_ble_eq_true rfl) (zO O355.2.1 (tv15 O355.2.1) aw15 rfl) rfl (qI_le (by decide) (e_refuse (d := 0) (r := 1) (q := (sk b n a)) O355.2.1 (by omega) (by omega))) (fun y412 h412 hRy412 => ?_)
            obtain ⟨z412, τ412, O412, fl412⟩ := hRy412
            refine y_same (i := .pop) (len := 1) (r := (0, 0, 0, 0)) (pc' := 107) (ls' := [some (.inl (some 15)), some (zi y356), some (zi v401)]) (st' := []) (by decide +kernel) (fun k q => by cases q) rfl ?_
            refine y_ic (c := (-1)) (len := 1) (r := (0, 0, 0, 0)) (by decide +kernel) (by decide) (fun y413 hy413 => ?_)
            refine y_rI (len := 1) (r := (0, 0, 0, 0)) (nL := 3) (k := 1) (n9 := 1) (hs := []) (by decide +kernel) rfl rfl ?_
            have hB : bt b n (sk b n a) = b (sk b n a) := bt_lt (by omega)
            have c0 := cl_0 (b := b) (n := n) (a := sk b n a)
            have c1 := cl_1 (b := b) (n := n) (a := sk b n a)
            unfold sml at c0 c1
            exact ⟨_, ⟨(aup_trans O355.1 O412.1), O412.2.1, fun k T j hk (hC : k ≠ 15 ∨ j < 3) => ((O412.2.2 k T j (O355.1 _ _ hk) (show k ≠ 15 ∨ j < 4 by omega)).trans (O355.2.2 k T j hk (show k ≠ 15 ∨ j ≠ 3 by omega)))⟩, Or.inr ⟨_, pv_f (by omega) (by omega), by omega, fl412⟩⟩
          ·
            refine y_cF (c := .lt) (off := 26) (len := 3) (r := (0, 0, 0, 0)) (by decide +kernel) (acmpF (c := .lt) (by show _ ≤ _; omega)) ?_
            refine y_same (i := .iload_n 2) (len := 1) (r := (0, 0, 0, 0)) (pc' := 75) (ls' := [some (.inl (some 15)), some (zi y356), some (zi v401)]) (st' := [zi v401]) (by decide +kernel) (fun k q => by cases q) rfl ?_
            refine y_bi (c := 101) (len := 2) (r := (0, 0, 0, 0)) (by decide +kernel) (by decide) (fun y414 hy414 => ?_)
            rcases Decidable.em (v401.toInt > y414.toInt) with q415 | q415
            ·
              refine y_cT (c := .gt) (off := 20) (pc' := 97) (len := 3) (r := (0, 0, 0, 0)) (by decide +kernel) (acmpT (c := .gt) (by show _ < _; omega)) (by decide +kernel) ?_
              refine y_same (i := .aload_n 0) (len := 1) (r := (0, 0, 0, 0)) (pc' := 98) (ls' := [some (.inl (some 15)), some (zi y356), some (zi v401)]) (st' := [.inl (some 15)]) (by decide +kernel) (fun k q => by cases q) rfl ?_
              refine y_ic (c := 1) (len := 1) (r := (0, 0, 0, 0)) (by decide +kernel) (by decide) (fun y416 hy416 => ?_)
              refine y_same (i := .aload_n 0) (len := 1) (r := (0, 0, 0, 0)) (pc' := 100) (ls' := [some (.inl (some 15)), some (zi y356), some (zi v401)]) (st' := [.inl (some 15), zi y416, .inl (some 15)]) (by decide +kernel) (fun k q => by cases q) rfl ?_
              refine y_get (j := 26) (len := 3) (r := (5, 3, 0, 243)) (by decide +kernel) O355.2.1 (tv15 O355.2.1) aw15 rfl rfl ha355 ?_
              refine y_cI (i := .invokevirtual 147) (len := 3) (r := (0, 61, 5, 1021)) (nL := 3) (k := 2) (n := 3) (hs := []) (args := [.inl (some 15), zi y416, zi xa355]) (rest := []) (l0 := [some (.inl (some 15)), some (zi y416), some (zi xa355)]) (by decide +kernel) (Or.inr (Or.inl ⟨_, rfl⟩)) rfl rfl rfl rfl (Nat.le_of_ble_eq_true rfl) (zO O355.2.1 (tv15 O355.2.1) aw15 rfl) rfl (qI_le (by decide) (e_refuse (d := 0) (r := 1) (q := (sk b n a)) O355.2.1 (by omega) (by omega))) (fun y417 h417 hRy417 => ?_)
              obtain ⟨z417, τ417, O417, fl417⟩ := hRy417
              refine y_same (i := .pop) (len := 1) (r := (0, 0, 0, 0)) (pc' := 107) (ls' := [some (.inl (some 15)), some (zi y356), some (zi v401)]) (st' := []) (by decide +kernel) (fun k q => by cases q) rfl ?_
              refine y_ic (c := (-1)) (len := 1) (r := (0, 0, 0, 0)) (by decide +kernel) (by decide) (fun y418 hy418 => ?_)
              refine y_rI (len := 1) (r := (0, 0, 0, 0)) (nL := 3) (k := 1) (n9 := 1) (hs := []) (by decide +kernel) rfl rfl ?_
              have hB : bt b n (sk b n a) = b (sk b n a) := bt_lt (by omega)
              have c0 := cl_0 (b := b) (n := n) (a := sk b n a)
              have c1 := cl_1 (b := b) (n := n) (a := sk b n a)
              unfold sml at c0 c1
              exact ⟨_, ⟨(aup_trans O355.1 O417.1), O417.2.1, fun k T j hk (hC : k ≠ 15 ∨ j < 3) => ((O417.2.2 k T j (O355.1 _ _ hk) (show k ≠ 15 ∨ j < 4 by omega)).trans (O355.2.2 k T j hk (show k ≠ 15 ∨ j ≠ 3 by omega)))⟩, Or.inr ⟨_, pv_f (by omega) (by omega), by omega, fl417⟩⟩
            ·
              refine y_cF (c := .gt) (off := 20) (len := 3) (r := (0, 0, 0, 0)) (by decide +kernel) (acmpF (c := .gt) (by show _ ≤ _; omega)) ?_
              refine y_same (i := .aload_n 0) (len := 1) (r := (0, 0, 0, 0)) (pc' := 81) (ls' := [some (.inl (some 15)), some (zi y356), some (zi v401)]) (st' := [.inl (some 15)]) (by decide +kernel) (fun k q => by cases q) rfl ?_
              refine y_same (i := .dup) (len := 1) (r := (0, 0, 0, 0)) (pc' := 82) (ls' := [some (.inl (some 15)), some (zi y356), some (zi v401)]) (st' := [.inl (some 15), .inl (some 15)]) (by decide +kernel) (fun k q => by cases q) rfl ?_
              refine y_get (j := 26) (len := 3) (r := (5, 3, 0, 243)) (by decide +kernel) O355.2.1 (tv15 O355.2.1) aw15 rfl rfl ha355 ?_
              refine y_ic (c := 1) (len := 1) (r := (0, 0, 0, 0)) (by decide +kernel) (by decide) (fun y419 hy419 => ?_)
              refine y_add (len := 1) (r := (0, 0, 0, 0)) (by decide +kernel) (by omega) (by omega) (fun y420 hy420 => ?_)
              refine y_put (j := 26) (lo := (-2147483648)) (hi := 2147483647) (len := 3) (r := (5, 3, 0, 243)) (by decide +kernel) O355.2.1 (tv15 O355.2.1) aw15 rfl rfl (by decide) rfl (qin_full _).1 (qin_full _).2 rfl (fun h421 hg421 hl421 hs421 ho421 => ?_)
              have ho421 : hO 15 3 h355 h421 := ho421
              have hs421 : hsl h421 15 3 = some (zi y420) := hs421
              refine y_same (i := .iload_n 2) (len := 1) (r := (0, 0, 0, 0)) (pc' := 91) (ls' := [some (.inl (some 15)), some (zi y356), some (zi v401)]) (st' := [zi v401]) (by decide +kernel) (fun k q => by cases q) rfl ?_
              refine y_bi (c := 97) (len := 2) (r := (0, 0, 0, 0)) (by decide +kernel) (by decide) (fun y422 hy422 => ?_)
              refine y_sub (len := 1) (r := (0, 0, 0, 0)) (by decide +kernel) (by omega) (by omega) (fun y423 hy423 => ?_)
              refine y_ic (c := 1) (len := 1) (r := (0, 0, 0, 0)) (by decide +kernel) (by decide) (fun y424 hy424 => ?_)
              refine y_add (len := 1) (r := (0, 0, 0, 0)) (by decide +kernel) (by omega) (by omega) (fun y425 hy425 => ?_)
              refine y_rI (len := 1) (r := (0, 0, 0, 0)) (nL := 3) (k := 1) (n9 := 1) (hs := []) (by decide +kernel) rfl rfl ?_
              have hB : bt b n (sk b n a) = b (sk b n a) := bt_lt (by omega)
              have c0 := cl_0 (b := b) (n := n) (a := sk b n a)
              have c1 := cl_1 (b := b) (n := n) (a := sk b n a)
              unfold sml at c0 c1
              exact ⟨_, ⟨O355.1, hg421, fun k T j hk (hC : k ≠ 15 ∨ j < 3) => ((ho421 k j (by omega)).trans (O355.2.2 k T j hk (show k ≠ 15 ∨ j ≠ 3 by omega)))⟩, Or.inl ⟨_, sk b n a + 1, pv_v (by omega) (by omega) (by omega), by omega, by omega, by omega, by omega, (rdc_up O355.2.1 rd355 ⟨(aup_refl _), hg421, fun k T j hk (hC : k ≠ 15 ∨ j ≠ 3) => (ho421 k j (by omega))⟩ ⟨_, hs421, by omega⟩)⟩⟩
      ·
        refine y_iF (c := .ne) (off := 21) (len := 3) (r := (0, 0, 0, 0)) (by decide +kernel) (acmpF (c := .ne) (by show _ = _; omega)) ?_
        refine y_same (i := .iload_n 2) (len := 1) (r := (0, 0, 0, 0)) (pc' := 46) (ls' := [some (.inl (some 15)), some (zi y356), some (zi v401)]) (st' := [zi v401]) (by decide +kernel) (fun k q => by cases q) rfl ?_
        refine y_bi (c := 48) (len := 2) (r := (0, 0, 0, 0)) (by decide +kernel) (by decide) (fun y426 hy426 => ?_)
        rcases Decidable.em (v401.toInt ≠ y426.toInt) with q427 | q427
        ·
          refine y_cT (c := .ne) (off := 15) (pc' := 63) (len := 3) (r := (0, 0, 0, 0)) (by decide +kernel) (acmpT (c := .ne) (by show ¬ (_ = _); omega)) (by decide +kernel) ?_
          refine y_same (i := .iload_n 1) (len := 1) (r := (0, 0, 0, 0)) (pc' := 64) (ls' := [some (.inl (some 15)), some (zi y356), some (zi v401)]) (st' := [zi y356]) (by decide +kernel) (fun k q => by cases q) rfl ?_
          refine y_ic (c := 1) (len := 1) (r := (0, 0, 0, 0)) (by decide +kernel) (by decide) (fun y428 hy428 => ?_)
          rcases Decidable.em (y356.toInt ≠ y428.toInt) with q429 | q429
          ·
            refine y_cT (c := .ne) (off := 32) (pc' := 97) (len := 3) (r := (0, 0, 0, 0)) (by decide +kernel) (acmpT (c := .ne) (by show ¬ (_ = _); omega)) (by decide +kernel) ?_
            refine y_same (i := .aload_n 0) (len := 1) (r := (0, 0, 0, 0)) (pc' := 98) (ls' := [some (.inl (some 15)), some (zi y356), some (zi v401)]) (st' := [.inl (some 15)]) (by decide +kernel) (fun k q => by cases q) rfl ?_
            refine y_ic (c := 1) (len := 1) (r := (0, 0, 0, 0)) (by decide +kernel) (by decide) (fun y430 hy430 => ?_)
            refine y_same (i := .aload_n 0) (len := 1) (r := (0, 0, 0, 0)) (pc' := 100) (ls' := [some (.inl (some 15)), some (zi y356), some (zi v401)]) (st' := [.inl (some 15), zi y430, .inl (some 15)]) (by decide +kernel) (fun k q => by cases q) rfl ?_
            refine y_get (j := 26) (len := 3) (r := (5, 3, 0, 243)) (by decide +kernel) O355.2.1 (tv15 O355.2.1) aw15 rfl rfl ha355 ?_
            refine y_cI (i := .invokevirtual 147) (len := 3) (r := (0, 61, 5, 1021)) (nL := 3) (k := 2) (n := 3) (hs := []) (args := [.inl (some 15), zi y430, zi xa355]) (rest := []) (l0 := [some (.inl (some 15)), some (zi y430), some (zi xa355)]) (by decide +kernel) (Or.inr (Or.inl ⟨_, rfl⟩)) rfl rfl rfl rfl (Nat.le_of_ble_eq_true rfl) (zO O355.2.1 (tv15 O355.2.1) aw15 rfl) rfl (qI_le (by decide) (e_refuse (d := 0) (r := 1) (q := (sk b n a)) O355.2.1 (by omega) (by omega))) (fun y431 h431 hRy431 => ?_)
            obtain ⟨z431, τ431, O431, fl431⟩ := hRy431
            refine y_same (i := .pop) (len := 1) (r := (0, 0, 0, 0)) (pc' := 107) (ls' := [some (.inl (some 15)), some (zi y356), some (zi v401)]) (st' := []) (by decide +kernel) (fun k q => by cases q) rfl ?_
            refine y_ic (c := (-1)) (len := 1) (r := (0, 0, 0, 0)) (by decide +kernel) (by decide) (fun y432 hy432 => ?_)
            refine y_rI (len := 1) (r := (0, 0, 0, 0)) (nL := 3) (k := 1) (n9 := 1) (hs := []) (by decide +kernel) rfl rfl ?_
            have hB : bt b n (sk b n a) = b (sk b n a) := bt_lt (by omega)
            have c0 := cl_0 (b := b) (n := n) (a := sk b n a)
            have c1 := cl_1 (b := b) (n := n) (a := sk b n a)
            unfold sml at c0 c1
            exact ⟨_, ⟨(aup_trans O355.1 O431.1), O431.2.1, fun k T j hk (hC : k ≠ 15 ∨ j < 3) => ((O431.2.2 k T j (O355.1 _ _ hk) (show k ≠ 15 ∨ j < 4 by omega)).trans (O355.2.2 k T j hk (show k ≠ 15 ∨ j ≠ 3 by omega)))⟩, Or.inr ⟨_, pv_f (by omega) (by omega), by omega, fl431⟩⟩
          ·
            refine y_cF (c := .ne) (off := 32) (len := 3) (r := (0, 0, 0, 0)) (by decide +kernel) (acmpF (c := .ne) (by show _ = _; omega)) ?_
            refine y_same (i := .iload_n 2) (len := 1) (r := (0, 0, 0, 0)) (pc' := 69) (ls' := [some (.inl (some 15)), some (zi y356), some (zi v401)]) (st' := [zi v401]) (by decide +kernel) (fun k q => by cases q) rfl ?_
            refine y_bi (c := 97) (len := 2) (r := (0, 0, 0, 0)) (by decide +kernel) (by decide) (fun y433 hy433 => ?_)
            rcases Decidable.em (v401.toInt < y433.toInt) with q434 | q434
            ·
              refine y_cT (c := .lt) (off := 26) (pc' := 97) (len := 3) (r := (0, 0, 0, 0)) (by decide +kernel) (acmpT (c := .lt) (by show _ < _; omega)) (by decide +kernel) ?_
              refine y_same (i := .aload_n 0) (len := 1) (r := (0, 0, 0, 0)) (pc' := 98) (ls' := [some (.inl (some 15)), some (zi y356), some (zi v401)]) (st' := [.inl (some 15)]) (by decide +kernel) (fun k q => by cases q) rfl ?_
              refine y_ic (c := 1) (len := 1) (r := (0, 0, 0, 0)) (by decide +kernel) (by decide) (fun y435 hy435 => ?_)
              refine y_same (i := .aload_n 0) (len := 1) (r := (0, 0, 0, 0)) (pc' := 100) (ls' := [some (.inl (some 15)), some (zi y356), some (zi v401)]) (st' := [.inl (some 15), zi y435, .inl (some 15)]) (by decide +kernel) (fun k q => by cases q) rfl ?_
              refine y_get (j := 26) (len := 3) (r := (5, 3, 0, 243)) (by decide +kernel) O355.2.1 (tv15 O355.2.1) aw15 rfl rfl ha355 ?_
              refine y_cI (i := .invokevirtual 147) (len := 3) (r := (0, 61, 5, 1021)) (nL := 3) (k := 2) (n := 3) (hs := []) (args := [.inl (some 15), zi y435, zi xa355]) (rest := []) (l0 := [some (.inl (some 15)), some (zi y435), some (zi xa355)]) (by decide +kernel) (Or.inr (Or.inl ⟨_, rfl⟩)) rfl rfl rfl rfl (Nat.le_of_ble_eq_true rfl) (zO O355.2.1 (tv15 O355.2.1) aw15 rfl) rfl (qI_le (by decide) (e_refuse (d := 0) (r := 1) (q := (sk b n a)) O355.2.1 (by omega) (by omega))) (fun y436 h436 hRy436 => ?_)
              obtain ⟨z436, τ436, O436, fl436⟩ := hRy436
              refine y_same (i := .pop) (len := 1) (r := (0, 0, 0, 0)) (pc' := 107) (ls' := [some (.inl (some 15)), some (zi y356), some (zi v401)]) (st' := []) (by decide +kernel) (fun k q => by cases q) rfl ?_
              refine y_ic (c := (-1)) (len := 1) (r := (0, 0, 0, 0)) (by decide +kernel) (by decide) (fun y437 hy437 => ?_)
              refine y_rI (len := 1) (r := (0, 0, 0, 0)) (nL := 3) (k := 1) (n9 := 1) (hs := []) (by decide +kernel) rfl rfl ?_
              have hB : bt b n (sk b n a) = b (sk b n a) := bt_lt (by omega)
              have c0 := cl_0 (b := b) (n := n) (a := sk b n a)
              have c1 := cl_1 (b := b) (n := n) (a := sk b n a)
              unfold sml at c0 c1
              exact ⟨_, ⟨(aup_trans O355.1 O436.1), O436.2.1, fun k T j hk (hC : k ≠ 15 ∨ j < 3) => ((O436.2.2 k T j (O355.1 _ _ hk) (show k ≠ 15 ∨ j < 4 by omega)).trans (O355.2.2 k T j hk (show k ≠ 15 ∨ j ≠ 3 by omega)))⟩, Or.inr ⟨_, pv_f (by omega) (by omega), by omega, fl436⟩⟩
            ·
              refine y_cF (c := .lt) (off := 26) (len := 3) (r := (0, 0, 0, 0)) (by decide +kernel) (acmpF (c := .lt) (by show _ ≤ _; omega)) ?_
              refine y_same (i := .iload_n 2) (len := 1) (r := (0, 0, 0, 0)) (pc' := 75) (ls' := [some (.inl (some 15)), some (zi y356), some (zi v401)]) (st' := [zi v401]) (by decide +kernel) (fun k q => by cases q) rfl ?_
              refine y_bi (c := 101) (len := 2) (r := (0, 0, 0, 0)) (by decide +kernel) (by decide) (fun y438 hy438 => ?_)
              rcases Decidable.em (v401.toInt > y438.toInt) with q439 | q439
              ·
                refine y_cT (c := .gt) (off := 20) (pc' := 97) (len := 3) (r := (0, 0, 0, 0)) (by decide +kernel) (acmpT (c := .gt) (by show _ < _; omega)) (by decide +kernel) ?_
                refine y_same (i := .aload_n 0) (len := 1) (r := (0, 0, 0, 0)) (pc' := 98) (ls' := [some (.inl (some 15)), some (zi y356), some (zi v401)]) (st' := [.inl (some 15)]) (by decide +kernel) (fun k q => by cases q) rfl ?_
                refine y_ic (c := 1) (len := 1) (r := (0, 0, 0, 0)) (by decide +kernel) (by decide) (fun y440 hy440 => ?_)
                refine y_same (i := .aload_n 0) (len := 1) (r := (0, 0, 0, 0)) (pc' := 100) (ls' := [some (.inl (some 15)), some (zi y356), some (zi v401)]) (st' := [.inl (some 15), zi y440, .inl (some 15)]) (by decide +kernel) (fun k q => by cases q) rfl ?_
                refine y_get (j := 26) (len := 3) (r := (5, 3, 0, 243)) (by decide +kernel) O355.2.1 (tv15 O355.2.1) aw15 rfl rfl ha355 ?_
                refine y_cI (i := .invokevirtual 147) (len := 3) (r := (0, 61, 5, 1021)) (nL := 3) (k := 2) (n := 3) (hs := []) (args := [.inl (some 15), zi y440, zi xa355]) (rest := []) (l0 := [some (.inl (some 15)), some (zi y440), some (zi xa355)]) (by decide +kernel) (Or.inr (Or.inl ⟨_, rfl⟩)) rfl rfl rfl rfl (Nat.le_of_ble_eq_true rfl) (zO O355.2.1 (tv15 O355.2.1) aw15 rfl) rfl (qI_le (by decide) (e_refuse (d := 0) (r := 1) (q := (sk b n a)) O355.2.1 (by omega) (by omega))) (fun y441 h441 hRy441 => ?_)
                obtain ⟨z441, τ441, O441, fl441⟩ := hRy441
                refine y_same (i := .pop) (len := 1) (r := (0, 0, 0, 0)) (pc' := 107) (ls' := [some (.inl (some 15)), some (zi y356), some (zi v401)]) (st' := []) (by decide +kernel) (fun k q => by cases q) rfl ?_
                refine y_ic (c := (-1)) (len := 1) (r := (0, 0, 0, 0)) (by decide +kernel) (by decide) (fun y442 hy442 => ?_)
                refine y_rI (len := 1) (r := (0, 0, 0, 0)) (nL := 3) (k := 1) (n9 := 1) (hs := []) (by decide +kernel) rfl rfl ?_
                have hB : bt b n (sk b n a) = b (sk b n a) := bt_lt (by omega)
                have c0 := cl_0 (b := b) (n := n) (a := sk b n a)
                have c1 := cl_1 (b := b) (n := n) (a := sk b n a)
                unfold sml at c0 c1
                exact ⟨_, ⟨(aup_trans O355.1 O441.1), O441.2.1, fun k T j hk (hC : k ≠ 15 ∨ j < 3) => ((O441.2.2 k T j (O355.1 _ _ hk) (show k ≠ 15 ∨ j < 4 by omega)).trans (O355.2.2 k T j hk (show k ≠ 15 ∨ j ≠ 3 by omega)))⟩, Or.inr ⟨_, pv_f (by omega) (by omega), by omega, fl441⟩⟩
              ·
                refine y_cF (c := .gt) (off := 20) (len := 3) (r := (0, 0, 0, 0)) (by decide +kernel) (acmpF (c := .gt) (by show _ ≤ _; omega)) ?_
                refine y_same (i := .aload_n 0) (len := 1) (r := (0, 0, 0, 0)) (pc' := 81) (ls' := [some (.inl (some 15)), some (zi y356), some (zi v401)]) (st' := [.inl (some 15)]) (by decide +kernel) (fun k q => by cases q) rfl ?_
                refine y_same (i := .dup) (len := 1) (r := (0, 0, 0, 0)) (pc' := 82) (ls' := [some (.inl (some 15)), some (zi y356), some (zi v401)]) (st' := [.inl (some 15), .inl (some 15)]) (by decide +kernel) (fun k q => by cases q) rfl ?_
                refine y_get (j := 26) (len := 3) (r := (5, 3, 0, 243)) (by decide +kernel) O355.2.1 (tv15 O355.2.1) aw15 rfl rfl ha355 ?_
                refine y_ic (c := 1) (len := 1) (r := (0, 0, 0, 0)) (by decide +kernel) (by decide) (fun y443 hy443 => ?_)
                refine y_add (len := 1) (r := (0, 0, 0, 0)) (by decide +kernel) (by omega) (by omega) (fun y444 hy444 => ?_)
                refine y_put (j := 26) (lo := (-2147483648)) (hi := 2147483647) (len := 3) (r := (5, 3, 0, 243)) (by decide +kernel) O355.2.1 (tv15 O355.2.1) aw15 rfl rfl (by decide) rfl (qin_full _).1 (qin_full _).2 rfl (fun h445 hg445 hl445 hs445 ho445 => ?_)
                have ho445 : hO 15 3 h355 h445 := ho445
                have hs445 : hsl h445 15 3 = some (zi y444) := hs445
                refine y_same (i := .iload_n 2) (len := 1) (r := (0, 0, 0, 0)) (pc' := 91) (ls' := [some (.inl (some 15)), some (zi y356), some (zi v401)]) (st' := [zi v401]) (by decide +kernel) (fun k q => by cases q) rfl ?_
                refine y_bi (c := 97) (len := 2) (r := (0, 0, 0, 0)) (by decide +kernel) (by decide) (fun y446 hy446 => ?_)
                refine y_sub (len := 1) (r := (0, 0, 0, 0)) (by decide +kernel) (by omega) (by omega) (fun y447 hy447 => ?_)
                refine y_ic (c := 1) (len := 1) (r := (0, 0, 0, 0)) (by decide +kernel) (by decide) (fun y448 hy448 => ?_)
                refine y_add (len := 1) (r := (0, 0, 0, 0)) (by decide +kernel) (by omega) (by omega) (fun y449 hy449 => ?_)
                refine y_rI (len := 1) (r := (0, 0, 0, 0)) (nL := 3) (k := 1) (n9 := 1) (hs := []) (by decide +kernel) rfl rfl ?_
                have hB : bt b n (sk b n a) = b (sk b n a) := bt_lt (by omega)
                have c0 := cl_0 (b := b) (n := n) (a := sk b n a)
                have c1 := cl_1 (b := b) (n := n) (a := sk b n a)
                unfold sml at c0 c1
                exact ⟨_, ⟨O355.1, hg445, fun k T j hk (hC : k ≠ 15 ∨ j < 3) => ((ho445 k j (by omega)).trans (O355.2.2 k T j hk (show k ≠ 15 ∨ j ≠ 3 by omega)))⟩, Or.inl ⟨_, sk b n a + 1, pv_v (by omega) (by omega) (by omega), by omega, by omega, by omega, by omega, (rdc_up O355.2.1 rd355 ⟨(aup_refl _), hg445, fun k T j hk (hC : k ≠ 15 ∨ j ≠ 3) => (ho445 k j (by omega))⟩ ⟨_, hs445, by omega⟩)⟩⟩
        ·
          refine y_cF (c := .ne) (off := 15) (len := 3) (r := (0, 0, 0, 0)) (by decide +kernel) (acmpF (c := .ne) (by show _ = _; omega)) ?_
          refine y_same (i := .aload_n 0) (len := 1) (r := (0, 0, 0, 0)) (pc' := 52) (ls' := [some (.inl (some 15)), some (zi y356), some (zi v401)]) (st' := [.inl (some 15)]) (by decide +kernel) (fun k q => by cases q) rfl ?_
          refine y_same (i := .dup) (len := 1) (r := (0, 0, 0, 0)) (pc' := 53) (ls' := [some (.inl (some 15)), some (zi y356), some (zi v401)]) (st' := [.inl (some 15), .inl (some 15)]) (by decide +kernel) (fun k q => by cases q) rfl ?_
          refine y_get (j := 26) (len := 3) (r := (5, 3, 0, 243)) (by decide +kernel) O355.2.1 (tv15 O355.2.1) aw15 rfl rfl ha355 ?_
          refine y_ic (c := 1) (len := 1) (r := (0, 0, 0, 0)) (by decide +kernel) (by decide) (fun y450 hy450 => ?_)
          refine y_add (len := 1) (r := (0, 0, 0, 0)) (by decide +kernel) (by omega) (by omega) (fun y451 hy451 => ?_)
          refine y_put (j := 26) (lo := (-2147483648)) (hi := 2147483647) (len := 3) (r := (5, 3, 0, 243)) (by decide +kernel) O355.2.1 (tv15 O355.2.1) aw15 rfl rfl (by decide) rfl (qin_full _).1 (qin_full _).2 rfl (fun h452 hg452 hl452 hs452 ho452 => ?_)
          have ho452 : hO 15 3 h355 h452 := ho452
          have hs452 : hsl h452 15 3 = some (zi y451) := hs452
          refine y_ic (c := 0) (len := 1) (r := (0, 0, 0, 0)) (by decide +kernel) (by decide) (fun y453 hy453 => ?_)
          refine y_rI (len := 1) (r := (0, 0, 0, 0)) (nL := 3) (k := 1) (n9 := 1) (hs := []) (by decide +kernel) rfl rfl ?_
          have hB : bt b n (sk b n a) = b (sk b n a) := bt_lt (by omega)
          have c0 := cl_0 (b := b) (n := n) (a := sk b n a)
          have c1 := cl_1 (b := b) (n := n) (a := sk b n a)
          unfold sml at c0 c1
          exact ⟨_, ⟨O355.1, hg452, fun k T j hk (hC : k ≠ 15 ∨ j < 3) => ((ho452 k j (by omega)).trans (O355.2.2 k T j hk (show k ≠ 15 ∨ j ≠ 3 by omega)))⟩, Or.inl ⟨0, sk b n a + 1, pv_0 (by omega), by omega, by omega, by omega, by omega, (rdc_up O355.2.1 rd355 ⟨(aup_refl _), hg452, fun k T j hk (hC : k ≠ 15 ∨ j ≠ 3) => (ho452 k j (by omega))⟩ ⟨_, hs452, by omega⟩)⟩⟩
