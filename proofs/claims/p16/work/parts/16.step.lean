section ZH6
variable {p : Program} {l : Launch} {e : Env} {R : Room} {s : State} {m : MethodId} {args : Array Value} {below : List Frame} {meth : Method} {c : Code} {H : Heap} {locs : List Loc} {cells slots : Nat} {Q : State → Prop}
variable {cc : ByteArray} {g : zg} {D : va_G} {A : Nat → Prop} {own nm : String} {scr : Option (List zv)} {ws : va_W} {hp : zh} {nL : Nat}
theorem zrows (N : Nat) (r : Nat → Nat) (e0 : va_E) : va_pl ([] ++ (List.range N).map r) (vr_up (fun _ => e0) ((List.range N).map r) e0) = (List.range N).map (fun i => (r i, e0)) := by
  unfold va_pl
  rw [List.nil_append, List.map_map]
  apply List.map_congr_left
  intro i hi
  simp [vr_up]
theorem zsl_rep (N : Nat) (c0 : zc) : zsl (List.replicate N c0) = N * zsz c0 := by
  unfold zsl
  rw [List.map_replicate, List.sum_replicate_nat]
theorem zH_mna {idx dim : Nat} {r : zr} {pc pc' : Nat} {ls ls' : List (Option zv)} {st st' : List zv} {z : zp} {la : Array Slot} {vs : List Value} (hF : zFr p s m args meth c cc own nm g scr D A) (hd : decode cc pc = .ok (.multianewarray idx dim, 4)) (hdim : dim = 2) (hw : zwd own nm (.multianewarray idx dim) r = true) (h : stH scr (.multianewarray idx dim) r pc ls st hp = some (pc', ls', st', z)) (hW : zW (zX g) D A s H ws hp) (hS0 : va_S A s.heap H locs) (hL : zL (zX g) ws nL ls la) (hS : zS (zX g) ws st vs) (hrc : cells + (hap hp z).length ≤ R.cells + hp.length) (hrs : slots + zsl (hap hp z) ≤ R.slots + zsl hp) (k : zK p l e R s m args below meth c cells slots Q g D A nL ws hp (hap hp z) pc' ls' st') : W p l e R s m args below meth c H locs cells slots Q (F0 m pc la vs) := by
  obtain ⟨hx, hb, hown, hts, hnm, hE, hA⟩ := id hF
  subst hdim
  rcases st with _ | ⟨kv, _ | ⟨nv, st1⟩⟩
  · cases h
  · cases h
  · have h7 : (match zsize nv, zsize kv with
      | some N, some K => frc hp.length (fun n => bif Nat.blt n 900000 then some (pc + 4, ls, .inl (some n) :: st1, (some (.inr (.inl (5, (List.range N).map (fun i => .inl (some (n + 1 + i)))) :: List.replicate N (.inl (0, List.replicate K (zi 0))))) : zp)) else none)
      | _, _ => none) = some (pc', ls', st', z) := h
    clear h
    obtain ⟨u, t0, rfl, hu, hS1⟩ := zS_cons hS
    obtain ⟨w, t1, rfl, hw1, hS2⟩ := zS_cons hS1
    cases hN : zsize nv with
    | none => rw [hN] at h7; cases h7
    | some N =>
      cases hK : zsize kv with
      | none => rw [hN, hK] at h7; cases h7
      | some K =>
        rw [hN, hK] at h7
        simp only [frc_eq] at h7
        cases hn : Nat.blt hp.length 900000 with
        | false => rw [hn] at h7; cases h7
        | true =>
          rw [hn] at h7
          cases h7
          have hn : hp.length < 900000 := by simpa [Nat.blt_eq] using hn
          obtain ⟨x, rfl, rfl, hx0, hN2⟩ := zsize_inv hN hw1
          obtain ⟨y, rfl, rfl, hy0, hK2⟩ := zsize_inv hK hu
          have hw : (zat r.2.1 (.classLink own idx ("[" ++ (FieldType.array .int).toString)) && zat r.2.2.1 (.arrayClass .int)) = true := hw
          simp only [Bool.and_eq_true] at hw
          have hAC := hts _ (zat_ok hw.2)
          obtain ⟨cy, kA, comp, hc1, hc2, hc3⟩ := Cond.arrayClass_spec hAC
          have hAr : ArrOfT s cy .int ∧ va_RA s cy .int := ⟨fun n9 z9 => ⟨fun k9 h9 => (by cases h9), kA, hc2, comp, hc3⟩, hc1⟩
          have hz : zsl (hap hp (some (.inr (.inl (5, (List.range x.toNatClampNeg).map (fun i => .inl (some (hp.length + 1 + i)))) :: List.replicate x.toNatClampNeg (.inl (0, List.replicate y.toNatClampNeg (zi 0))))))) = zsl hp + (x.toNatClampNeg + x.toNatClampNeg * y.toNatClampNeg) := by
            show zsl (hp ++ (_ :: _)) = _
            rw [zsl_app]
            have e1 : ∀ (c1 : zc) (l1 : zh), zsl (c1 :: l1) = zsz c1 + zsl l1 := fun c1 l1 => by simp [zsl]
            rw [e1, zsl_rep]
            simp [zsz]
          have hlen : (hap hp (some (.inr (.inl (5, (List.range x.toNatClampNeg).map (fun i => .inl (some (hp.length + 1 + i)))) :: List.replicate x.toNatClampNeg (.inl (0, List.replicate y.toNatClampNeg (zi 0))))))).length = hp.length + (1 + x.toNatClampNeg) := by
            show (hp ++ (_ :: _)).length = _
            simp
            omega
          rw [hz] at hrs
          rw [hlen] at hrc
          refine va_mna (X := ws) (L := []) (f := fun _ => .inl (cy, y.toNatClampNeg, .inl (fun _ => 0))) (z := (y.toNatClampNeg, .inl (fun _ => 0))) (ty := .int) (cy := cy) hx hb hown (hts _ (zat_ok hw.1)) hE.2.2.1.2.2 hAC hc1 hE.1 (by simpa [va_pl] using hW.1) (by simpa [va_pl] using hW.2.1) hS0 hA hx0 hy0 rfl rfl (by omega) (by show _ * 4 ≤ _; omega) (by omega) rfl rfl (by omega) (by omega) (fun c9 => ?_) hd (fun q9 r9 cA H1 hinj hnl hK9 hP hD hS9 => ?_)
          · exact arrV_new c9 y.toNatClampNeg (.int 0)
          · rw [zrows] at hP hD
            rw [List.append_assoc] at hP hD
            have hm : zM ws (ws ++ ([(q9, .inl (cA, x.toNatClampNeg, .inr (.inr (.inr (.inr (fun i => if i < x.toNatClampNeg then some (r9 i) else none))))))] ++ (List.range x.toNatClampNeg).map (fun i => (r9 i, .inl (cy, y.toNatClampNeg, .inl (fun _ => 0)))))) := zM_app ws _
            refine k H1 locs _ _ _ la _ hm ?_ hS9 (zL_mono hm hL) ⟨Or.inl ⟨by omega, (q9, .inl (cA, x.toNatClampNeg, .inr (.inr (.inr (.inr (fun i => if i < x.toNatClampNeg then some (r9 i) else none)))))), ?_, rfl⟩, zS_mono hm hS2⟩ ?_ ?_
            · refine zW_push (H := H) hW ?_ ?_ (fun k9 c9 hk9 => ?_) hP hD
              · simp
              · simp
                omega
              · cases k9 with
                | zero =>
                  cases hk9
                  refine ⟨_, rfl, cA, _, rfl, by simp, hK9.2 0 _ rfl, ⟨_, rfl⟩, fun i b hi => ?_⟩
                  rw [List.getElem?_map] at hi
                  have hiN : i < x.toNatClampNeg := by
                    rcases Nat.lt_or_ge i x.toNatClampNeg with q | q
                    · exact q
                    · rw [List.getElem?_eq_none (by rw [List.length_range]; exact q)] at hi
                      cases hi
                  rw [List.getElem?_range hiN] at hi
                  cases hi
                  refine Or.inl ⟨by omega, (r9 i, .inl (cy, y.toNatClampNeg, .inl (fun _ => 0))), ?_, ?_⟩
                  · rw [List.getElem?_append_right (by rw [hW.2.2.1]; omega), hW.2.2.1, show hp.length + 1 + i - hp.length = i + 1 by omega]
                    show (_ :: _)[i + 1]? = _
                    rw [List.getElem?_cons_succ]
                    simp [hiN]
                  · simp [zelt, va_rf, hiN]
                | succ j =>
                  have hk9 : (List.replicate x.toNatClampNeg ((.inl (0, List.replicate y.toNatClampNeg (zi 0))) : zc))[j]? = some c9 := hk9
                  have hjN : j < x.toNatClampNeg := by
                    have := (List.getElem?_eq_some_iff.mp hk9).1
                    simpa using this
                  have hc9 := List.eq_of_mem_replicate (List.mem_of_getElem? hk9)
                  subst hc9
                  refine ⟨(r9 j, .inl (cy, y.toNatClampNeg, .inl (fun _ => 0))), ?_, cy, _, rfl, by simp, hAr, ⟨_, rfl⟩, fun i b hi => ?_⟩
                  · show ((List.range x.toNatClampNeg).map (fun i => (r9 i, _)))[j]? = _
                    simp [hjN]
                  · have := List.eq_of_mem_replicate (List.mem_of_getElem? hi)
                    subst this
                    rfl
            · rw [List.getElem?_append_right (by rw [hW.2.2.1]; exact Nat.le_refl _), hW.2.2.1, Nat.sub_self]
              rfl
            · rw [hlen]
              omega
            · rw [hz]
              omega
set_option maxHeartbeats 4000000 in
set_option maxRecDepth 100000 in
/-- an instruction that is no call and no end -/
theorem stH_ok {i : Instr} {len : Nat} {r : zr} {pc pc' : Nat} {ls ls' : List (Option zv)} {st st' : List zv} {z : zp} {la : Array Slot} {vs : List Value} (hF : zFr p s m args meth c cc own nm g scr D A) (hd : decode cc pc = .ok (i, len)) (hl : zlen i len = true) (hw : zwd own nm i r = true) (h99 : ∀ idx, i = .new idx → Nat.beq r.1 99 = false) (h : stH scr i r pc ls st hp = some (pc', ls', st', z)) (hW : zW (zX g) D A s H ws hp) (hS0 : va_S A s.heap H locs) (hL : zL (zX g) ws nL ls la) (hS : zS (zX g) ws st vs) (hrc : cells + (hap hp z).length ≤ R.cells + hp.length) (hrs : slots + zsl (hap hp z) ≤ R.slots + zsl hp) (k : zK p l e R s m args below meth c cells slots Q g D A nL ws hp (hap hp z) pc' ls' st') : W p l e R s m args below meth c H locs cells slots Q (F0 m pc la vs) := by
  cases i
  case getfield idx =>
    have hl : len = 3 := Nat.eq_of_beq_eq_true hl
    subst hl
    exact zH_get hF hd hw h hW hS0 hL hS k
  case putfield idx =>
    have hl : len = 3 := Nat.eq_of_beq_eq_true hl
    subst hl
    exact zH_put hF hd hw h hW hS0 hL hS k
  case new idx =>
    have hl : len = 3 := Nat.eq_of_beq_eq_true hl
    subst hl
    exact zH_new hF hd hw (h99 _ rfl) h hW hS0 hL hS hrc hrs k
  case newarray t =>
    have hl : len = 2 := Nat.eq_of_beq_eq_true hl
    subst hl
    exact zH_newa hF hd hw h hW hS0 hL hS hrc hrs k
  case anewarray idx =>
    have hl : len = 3 := Nat.eq_of_beq_eq_true hl
    subst hl
    exact zH_anew hF hd hw h hW hS0 hL hS hrc hrs k
  case multianewarray idx dim =>
    have hl : (Nat.beq len 4 && Nat.beq dim 2) = true := hl
    simp only [Bool.and_eq_true] at hl
    have h1 : len = 4 := Nat.eq_of_beq_eq_true hl.1
    subst h1
    exact zH_mna hF hd (Nat.eq_of_beq_eq_true hl.2) hw h hW hS0 hL hS hrc hrs k
  case arraylength =>
    have hl : len = 1 := Nat.eq_of_beq_eq_true hl
    subst hl
    exact zH_len hF hd h hW hS0 hL hS k
  case iaload =>
    have hl : len = 1 := Nat.eq_of_beq_eq_true hl
    subst hl
    exact zH_ild hF hd h hW hS0 hL hS k
  case baload =>
    have hl : len = 1 := Nat.eq_of_beq_eq_true hl
    subst hl
    exact zH_bld hF hd h hW hS0 hL hS k
  case laload =>
    have hl : len = 1 := Nat.eq_of_beq_eq_true hl
    subst hl
    exact zH_lald hF hd h hW hS0 hL hS k
  case aaload =>
    have hl : len = 1 := Nat.eq_of_beq_eq_true hl
    subst hl
    exact zH_aald hF hd h hW hS0 hL hS k
  case iastore =>
    have hl : len = 1 := Nat.eq_of_beq_eq_true hl
    subst hl
    exact zH_iast hF hd h hW hS0 hL hS k
  case bastore =>
    have hl : len = 1 := Nat.eq_of_beq_eq_true hl
    subst hl
    exact zH_zast hF hd h hW hS0 hL hS k
  case lastore =>
    have hl : len = 1 := Nat.eq_of_beq_eq_true hl
    subst hl
    exact zH_last hF hd h hW hS0 hL hS k
  case aastore =>
    have hl : len = 1 := Nat.eq_of_beq_eq_true hl
    subst hl
    exact zH_aast hF hd h hW hS0 hL hS k
  case ldc idx =>
    have hl : len = 2 := Nat.eq_of_beq_eq_true hl
    subst hl
    exact zH_ldc hF hd hw h hW hS0 hL hS k
  case ldc_w idx =>
    have hl : len = 3 := Nat.eq_of_beq_eq_true hl
    subst hl
    exact zH_ldcw hF hd hw h hW hS0 hL hS k
  case ldc2_w idx =>
    have hl : len = 3 := Nat.eq_of_beq_eq_true hl
    subst hl
    exact zH_ldc2 hF hd hw h hW hS0 hL hS k
  case getstatic idx =>
    have hl : len = 3 := Nat.eq_of_beq_eq_true hl
    subst hl
    exact zH_gets hF hd hw h hW hS0 hL hS k
  all_goals exact zH_A (r := r) hF.1 hF.2.1 hd hl h hW hS0 hL hS k
end ZH6
