theorem ztab_at : ∀ i, i < 22 → ztab[i]? = some (3000000 + i, zsbyt.getD i []) := by decide
theorem zslen_at : ∀ i, i < 22 → zslen.getD i 0 = (zsbyt.getD i []).length := by decide
/-- a text's bytes, by their place -/
theorem ztab_inv {g : zg} {q : Nat} {bs : List Int32} {v : Value} {ws : va_W} (h : zlk ztab q = some bs) (hv : zval (zX g) ws (.inl (some q)) v) : ∃ i : Nat, i < 22 ∧ v = .ref (g.2.2.2.2.1 i) ∧ bs = zsbyt.getD i [] := by
  obtain ⟨i, hi⟩ := List.getElem?_of_mem (zlk_mem h)
  have hl : i < 22 := (List.getElem?_eq_some_iff.mp hi).1
  rw [ztab_at i hl] at hi
  cases hi
  rcases hv with ⟨h1, -⟩ | ⟨-, hv⟩
  · omega
  · rcases hv with ⟨h1, -⟩ | ⟨h1, -⟩ | ⟨j, hj, h1, -⟩ | ⟨j, hj, h1, h2⟩
    · omega
    · omega
    · omega
    · have : i = j := by omega
      subst this
      exact ⟨i, hl, h2, rfl⟩
section ZH5
variable {p : Program} {l : Launch} {e : Env} {R : Room} {s : State} {m : MethodId} {args : Array Value} {below : List Frame} {meth : Method} {c : Code} {H : Heap} {locs : List Loc} {cells slots : Nat} {Q : State → Prop}
variable {cc : ByteArray} {g : zg} {D : va_G} {A : Nat → Prop} {own nm : String} {scr : Option (List zv)} {ws : va_W} {hp : zh} {nL : Nat}
theorem zH_len {r : zr} {pc pc' : Nat} {ls ls' : List (Option zv)} {st st' : List zv} {z : zp} {la : Array Slot} {vs : List Value} (hF : zFr p s m args meth c cc own nm g scr D A) (hd : decode cc pc = .ok (.arraylength, 1)) (h : stH scr .arraylength r pc ls st hp = some (pc', ls', st', z)) (hW : zW (zX g) D A s H ws hp) (hS0 : va_S A s.heap H locs) (hL : zL (zX g) ws nL ls la) (hS : zS (zX g) ws st vs) (k : zK p l e R s m args below meth c cells slots Q g D A nL ws hp (hap hp z) pc' ls' st') : W p l e R s m args below meth c H locs cells slots Q (F0 m pc la vs) := by
  obtain ⟨hx, hb, hown, hts, hnm, hE, hA⟩ := id hF
  rcases st with _ | ⟨(_ | q) | _, st1⟩
  · cases h
  · cases h
  · have h7 : zlenH scr pc ls (.inl (some q) :: st1) hp = some (pc', ls', st', z) := h
    clear h
    unfold zlenH at h7
    simp only [frcI_eq] at h7
    obtain ⟨u, t1, rfl, hu, hS1⟩ := zS_cons hS
    cases h1 : Nat.beq q 1000000 with
    | true =>
      rw [h1] at h7
      simp only [cond_true] at h7
      cases hsc : scr with
      | none => rw [hsc] at h7; cases h7
      | some l9 =>
      rw [hsc] at h7
      cases h7
      have h1 := Nat.eq_of_beq_eq_true h1
      subst h1
      rcases hu with ⟨h2, -⟩ | ⟨-, hu⟩
      · omega
      · rcases hu with ⟨-, rfl⟩ | ⟨h2, -⟩ | ⟨i, -, h2, -⟩ | ⟨i, -, h2, -⟩
        · refine va_slen hx hb hE.2.2.2.1.1 hE.2.2.2.1.2.1 hE.2.2.2.1.2.2.1 hS0 hd (zK_same k hW hS0 hL ⟨?_, hS1⟩)
          rw [(hE.2.2.2.1.2.2.2 _ hsc).1]
          rfl
        · omega
        · omega
        · omega
    | false =>
      rw [h1] at h7
      simp only [cond_false] at h7
      cases h3 : zlk ztab q with
      | some bs =>
        rw [h3] at h7
        cases h7
        obtain ⟨i, hi, rfl, rfl⟩ := ztab_inv h3 hu
        have hv := ((hE.2.2.2.2.1.1 i hi).1 0 (by omega)).2.2.2
        exact va_tlen hx hb hv hS0 (v := Int32.ofNat (zsbyt.getD i []).length) (by show Int32.ofNat (zslen.getD i 0) = _; rw [zslen_at i hi]) hd (zK_same k hW hS0 hL ⟨rfl, hS1⟩)
      | none =>
        rw [h3] at h7
        simp only at h7
        cases ha : zarr hp (.inl (some q)) with
        | none => rw [ha] at h7; cases h7
        | some q9 =>
          obtain ⟨q9, tg, fs⟩ := q9
          rw [ha] at h7
          cases h7
          obtain ⟨e9, hc⟩ := zarr_inv ha
          cases e9
          obtain ⟨a, el, rfl, ha2, cA, y, rfl, hy, hAr, hfm, hel⟩ := zat_cell hW hu hc
          exact va_alen hx hb (zKt hE hAr) hW.1 q 0 ha2 (ty := zty tg) rfl (v := Int32.ofNat fs.length) (by rw [hy]) hd (zK_same k hW hS0 hL ⟨rfl, hS1⟩)
  · cases h
theorem zH_ild {r : zr} {pc pc' : Nat} {ls ls' : List (Option zv)} {st st' : List zv} {z : zp} {la : Array Slot} {vs : List Value} (hF : zFr p s m args meth c cc own nm g scr D A) (hd : decode cc pc = .ok (.iaload, 1)) (h : stH scr .iaload r pc ls st hp = some (pc', ls', st', z)) (hW : zW (zX g) D A s H ws hp) (hS0 : va_S A s.heap H locs) (hL : zL (zX g) ws nL ls la) (hS : zS (zX g) ws st vs) (k : zK p l e R s m args below meth c cells slots Q g D A nL ws hp (hap hp z) pc' ls' st') : W p l e R s m args below meth c H locs cells slots Q (F0 m pc la vs) := by
  obtain ⟨hx, hb, hown, hts, hnm, hE, hA⟩ := id hF
  rcases st with _ | ⟨ix, _ | ⟨a, st1⟩⟩
  · cases h
  · cases h
  · have h7 : zildH scr pc ls (ix :: a :: st1) hp = some (pc', ls', st', z) := h
    clear h
    unfold zildH at h7
    simp only [] at h7
    cases hs : zisS a with
    | false =>
      rw [hs] at h7
      have h8 : zald (fun t => Nat.beq t 0) pc ls (ix :: a :: st1) hp = some (pc', ls', st', z) := h7
      exact zH_iald hF hd h8 hW hS0 hL hS k
    | true =>
      rw [hs] at h7
      simp only [cond_true, nth_eq] at h7
      obtain ⟨w, t0, rfl, hw, hS1⟩ := zS_cons hS
      obtain ⟨u, t1, rfl, hu, hS2⟩ := zS_cons hS1
      rcases a with (_ | q) | _
      · cases hs
      · have hq : q = 1000000 := Nat.eq_of_beq_eq_true hs
        subst hq
        cases hsc : scr with
        | none => rw [hsc] at h7; cases h7
        | some l9 =>
        rw [hsc] at h7
        simp only at h7
        cases hi : zix ix l9.length with
        | none => rw [hi] at h7; cases h7
        | some i =>
          rw [hi] at h7
          simp only at h7
          cases hv : l9[i]? with
          | none => rw [hv] at h7; cases h7
          | some v =>
            rw [hv] at h7
            cases h7
            obtain ⟨x, rfl, rfl, hx0, hx1, hin⟩ := zix_inv hi hw
            rcases hu with ⟨h2, -⟩ | ⟨-, hu⟩
            · omega
            · rcases hu with ⟨-, rfl⟩ | ⟨h2, -⟩ | ⟨i, -, h2, -⟩ | ⟨i, -, h2, -⟩
              · obtain ⟨s1, s2, s3, s4⟩ := hE.2.2.2.1
                obtain ⟨s5, s6⟩ := s4 _ hsc
                rw [s5] at hin
                refine va_sld hx hb s1 s2 s3 hS0 hin hd (zK_same k hW hS0 hL ⟨?_, hS2⟩)
                exact zval_mono (fun k9 q9 h9 => by simp at h9) (s6 _ _ hv)
              · omega
              · omega
              · omega
      · cases hs
theorem zH_bld {r : zr} {pc pc' : Nat} {ls ls' : List (Option zv)} {st st' : List zv} {z : zp} {la : Array Slot} {vs : List Value} (hF : zFr p s m args meth c cc own nm g scr D A) (hd : decode cc pc = .ok (.baload, 1)) (h : stH scr .baload r pc ls st hp = some (pc', ls', st', z)) (hW : zW (zX g) D A s H ws hp) (hS0 : va_S A s.heap H locs) (hL : zL (zX g) ws nL ls la) (hS : zS (zX g) ws st vs) (k : zK p l e R s m args below meth c cells slots Q g D A nL ws hp (hap hp z) pc' ls' st') : W p l e R s m args below meth c H locs cells slots Q (F0 m pc la vs) := by
  obtain ⟨hx, hb, hown, hts, hnm, hE, hA⟩ := id hF
  rcases st with _ | ⟨ix, _ | ⟨(_ | q) | _, st1⟩⟩
  · cases h
  · cases h
  · cases h
  · have h7 : zbldH pc ls (ix :: .inl (some q) :: st1) hp = some (pc', ls', st', z) := h
    clear h
    unfold zbldH at h7
    simp only [frcI_eq, nth_eq] at h7
    cases hs : zlk ztab q with
    | none =>
      rw [hs] at h7
      have h8 : zald (fun t => Nat.beq t 1) pc ls (ix :: .inl (some q) :: st1) hp = some (pc', ls', st', z) := h7
      exact zH_zald hF hd h8 hW hS0 hL hS k
    | some bs =>
      rw [hs] at h7
      simp only at h7
      obtain ⟨w, t0, rfl, hw, hS1⟩ := zS_cons hS
      obtain ⟨u, t1, rfl, hu, hS2⟩ := zS_cons hS1
      cases hi : zix ix bs.length with
      | none => rw [hi] at h7; cases h7
      | some i =>
        rw [hi] at h7
        simp only at h7
        cases hv : bs[i]? with
        | none => rw [hv] at h7; cases h7
        | some b =>
          rw [hv] at h7
          cases h7
          obtain ⟨x, rfl, rfl, hx0, hx1, hin⟩ := zix_inv hi hw
          obtain ⟨i, hi9, rfl, rfl⟩ := ztab_inv hs hu
          have hT := ((hE.2.2.2.2.1.1 i hi9).1 0 (by omega)).2.2.2
          rw [← zslen_at i hi9] at hin
          refine va_tb hx hb hT hS0 hin (v := .int b) ?_ hd (zK_same k hW hS0 hL ⟨rfl, hS2⟩)
          show Value.int ((zsbyt.getD i []).getD x.toNatClampNeg 0) = _
          rw [List.getD_eq_getElem?_getD (l := zsbyt.getD i []), hv]
          rfl
  · cases h
theorem zH_ldc {idx : Nat} {r : zr} {pc pc' : Nat} {ls ls' : List (Option zv)} {st st' : List zv} {z : zp} {la : Array Slot} {vs : List Value} (hF : zFr p s m args meth c cc own nm g scr D A) (hd : decode cc pc = .ok (.ldc idx, 2)) (hw : zwd own nm (.ldc idx) r = true) (h : stH scr (.ldc idx) r pc ls st hp = some (pc', ls', st', z)) (hW : zW (zX g) D A s H ws hp) (hS0 : va_S A s.heap H locs) (hL : zL (zX g) ws nL ls la) (hS : zS (zX g) ws st vs) (k : zK p l e R s m args below meth c cells slots Q g D A nL ws hp (hap hp z) pc' ls' st') : W p l e R s m args below meth c H locs cells slots Q (F0 m pc la vs) := by
  obtain ⟨hx, hb, hown, hts, hnm, hE, hA⟩ := id hF
  have h : (bif Nat.beq r.1 0 then frcI (Int32.ofNat r.2.1) (fun v => some (pc + 2, ls, zi v :: st, (none : zp))) else some (pc + 2, ls, .inl (some (2000000 + r.2.1)) :: st, (none : zp))) = some (pc', ls', st', z) := h
  have hw : (bif Nat.beq r.1 0 then zat r.2.2.1 (.constant own idx (Int32.ofNat r.2.1)) else (match zstrs[r.2.1]? with
    | some (o, k, _) => decide (o = own) && Nat.beq k idx
    | none => false)) = true := hw
  rw [frcI_eq] at h
  cases h0 : Nat.beq r.1 0 with
  | true =>
    rw [h0] at h hw
    cases h
    exact lv_ldc hx hb hown (hts _ (zat_ok hw)) hd (zK_same k hW hS0 hL ⟨rfl, hS⟩)
  | false =>
    rw [h0] at h hw
    cases h
    simp only [cond_false] at hw
    cases hs : zstrs[r.2.1]? with
    | none => rw [hs] at hw; cases hw
    | some q =>
      obtain ⟨o9, k9, t9⟩ := q
      rw [hs] at hw
      simp only [Bool.and_eq_true, decide_eq_true_eq] at hw
      obtain ⟨rfl, hk⟩ := hw
      have hk := Nat.eq_of_beq_eq_true hk
      subst hk
      have hi : r.2.1 < 22 := (List.getElem?_eq_some_iff.mp hs).1
      exact va_ldcS hx hb hown (hE.2.2.2.2.1.2 _ _ hs) hd (zK_same k hW hS0 hL ⟨Or.inr ⟨by omega, Or.inr (Or.inr (Or.inl ⟨r.2.1, hi, rfl, rfl⟩))⟩, hS⟩)
theorem zH_ldcw {idx : Nat} {r : zr} {pc pc' : Nat} {ls ls' : List (Option zv)} {st st' : List zv} {z : zp} {la : Array Slot} {vs : List Value} (hF : zFr p s m args meth c cc own nm g scr D A) (hd : decode cc pc = .ok (.ldc_w idx, 3)) (hw : zwd own nm (.ldc_w idx) r = true) (h : stH scr (.ldc_w idx) r pc ls st hp = some (pc', ls', st', z)) (hW : zW (zX g) D A s H ws hp) (hS0 : va_S A s.heap H locs) (hL : zL (zX g) ws nL ls la) (hS : zS (zX g) ws st vs) (k : zK p l e R s m args below meth c cells slots Q g D A nL ws hp (hap hp z) pc' ls' st') : W p l e R s m args below meth c H locs cells slots Q (F0 m pc la vs) := by
  obtain ⟨hx, hb, hown, hts, hnm, hE, hA⟩ := id hF
  have h : frcI (Int32.ofNat r.2.1) (fun v => some (pc + 3, ls, zi v :: st, (none : zp))) = some (pc', ls', st', z) := h
  rw [frcI_eq] at h
  cases h
  exact lv_ldcw hx hb hown (hts _ (zat_ok hw)) hd (zK_same k hW hS0 hL ⟨rfl, hS⟩)
theorem zH_ldc2 {idx : Nat} {r : zr} {pc pc' : Nat} {ls ls' : List (Option zv)} {st st' : List zv} {z : zp} {la : Array Slot} {vs : List Value} (hF : zFr p s m args meth c cc own nm g scr D A) (hd : decode cc pc = .ok (.ldc2_w idx, 3)) (hw : zwd own nm (.ldc2_w idx) r = true) (h : stH scr (.ldc2_w idx) r pc ls st hp = some (pc', ls', st', z)) (hW : zW (zX g) D A s H ws hp) (hS0 : va_S A s.heap H locs) (hL : zL (zX g) ws nL ls la) (hS : zS (zX g) ws st vs) (k : zK p l e R s m args below meth c cells slots Q g D A nL ws hp (hap hp z) pc' ls' st') : W p l e R s m args below meth c H locs cells slots Q (F0 m pc la vs) := by
  obtain ⟨hx, hb, hown, hts, hnm, hE, hA⟩ := id hF
  have h : frcL (Int64.ofNat r.2.1) (fun v => some (pc + 3, ls, .inr (.inr (.inl v)) :: st, (none : zp))) = some (pc', ls', st', z) := h
  rw [frcL_eq] at h
  cases h
  exact lv_ldc2 hx hb hown (hts _ (zat_ok hw)) hd (zK_same k hW hS0 hL ⟨rfl, hS⟩)
theorem zH_gets {idx : Nat} {r : zr} {pc pc' : Nat} {ls ls' : List (Option zv)} {st st' : List zv} {z : zp} {la : Array Slot} {vs : List Value} (hF : zFr p s m args meth c cc own nm g scr D A) (hd : decode cc pc = .ok (.getstatic idx, 3)) (hw : zwd own nm (.getstatic idx) r = true) (h : stH scr (.getstatic idx) r pc ls st hp = some (pc', ls', st', z)) (hW : zW (zX g) D A s H ws hp) (hS0 : va_S A s.heap H locs) (hL : zL (zX g) ws nL ls la) (hS : zS (zX g) ws st vs) (k : zK p l e R s m args below meth c cells slots Q g D A nL ws hp (hap hp z) pc' ls' st') : W p l e R s m args below meth c H locs cells slots Q (F0 m pc la vs) := by
  obtain ⟨hx, hb, hown, hts, hnm, hE, hA⟩ := id hF
  have h : some (pc + 3, ls, (bif Nat.beq r.1 0 then zi 1 else .inl (some 1000001)) :: st, (none : zp)) = some (pc', ls', st', z) := h
  have hw : (bif Nat.beq r.1 0 then zat r.2.2.2 (.fieldLink own idx "java/lang/String" "COMPACT_STRINGS" "Z") else zat r.2.2.2 (.fieldLink own idx "jdk/internal/util/Preconditions" "SIOOBE_FORMATTER" "Ljava/util/function/BiFunction;")) = true := hw
  cases h
  cases h0 : Nat.beq r.1 0 with
  | true =>
    rw [h0] at hw k
    exact va_gets hx hb hE.2.2.2.2.2.1.1 hS0 hown (hts _ (zat_ok hw)) (fun _ q => q) hd (zK_same k hW hS0 hL ⟨rfl, hS⟩)
  | false =>
    rw [h0] at hw k
    rcases hE.2.2.2.2.2.1.2 with h9 | ⟨t9, h9⟩
    · exact va_gets hx hb h9 hS0 hown (hts _ (zat_ok hw)) (fun _ q => q) hd (zK_same k hW hS0 hL ⟨Or.inr ⟨by omega, Or.inr (Or.inl ⟨rfl, Or.inl rfl⟩)⟩, hS⟩)
    · exact va_gets hx hb h9 hS0 hown (hts _ (zat_ok hw)) (fun _ q => q) hd (zK_same k hW hS0 hL ⟨Or.inr ⟨by omega, Or.inr (Or.inl ⟨rfl, Or.inr ⟨t9, rfl⟩⟩)⟩, hS⟩)
end ZH5
