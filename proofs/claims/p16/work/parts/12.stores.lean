section ZH2
variable {p : Program} {l : Launch} {e : Env} {R : Room} {s : State} {m : MethodId} {args : Array Value} {below : List Frame} {meth : Method} {c : Code} {H : Heap} {locs : List Loc} {cells slots : Nat} {Q : State → Prop}
variable {cc : ByteArray} {g : zg} {D : va_G} {A : Nat → Prop} {own nm : String} {scr : Option (List zv)} {ws : va_W} {hp : zh} {nL : Nat}
/-- behind a write -/
theorem zK_put {pc' : Nat} {ls' : List (Option zv)} {st' : List zv} {la' : Array Slot} {vs' : List Value} {H1 : Heap} {locs1 : List Loc} {q i a : Nat} {v : zv} {e0 e1 : va_E} {c0 c1 : zc} (k : zK p l e R s m args below meth c cells slots Q g D A nL ws hp (hap hp (some (.inl (q, i, v)))) pc' ls' st') (hW : zW (zX g) D A s H ws hp) (hc : hp[q]? = some c0) (hu : hup hp q i v = hp.set q c1 ∧ (hup hp q i v).length = hp.length ∧ zsl (hup hp q i v) = zsl hp) (ha : ws[q]? = some (a, e0)) (he : zcell (zX g) s ws c1 e1) (hP : va_P D vwCl (ws.set q (a, e1)) H1) (hD : va_D A (ws.set q (a, e1))) (hS1 : va_S A s.heap H1 locs1) (hL : zL (zX g) ws nL ls' la') (hS : zS (zX g) ws st' vs') : W p l e R s m args below meth c H1 locs1 cells slots Q (F0 m pc' la' vs') := by
  have hm : zM ws (ws.set q (a, e1)) := zM_set ha
  refine k H1 locs1 cells slots (ws.set q (a, e1)) la' vs' hm ?_ hS1 (zL_mono hm hL) (zS_mono hm hS) ?_ ?_
  · show zW (zX g) D A s H1 _ (hup hp q i v)
    rw [hu.1]
    exact zW_set hW ha hc he hP hD
  · show cells + hp.length = cells + (hup hp q i v).length
    rw [hu.2.1]
  · show slots + zsl hp = slots + zsl (hup hp q i v)
    rw [hu.2.2]
theorem zH_iast {pc pc' : Nat} {ls ls' : List (Option zv)} {st st' : List zv} {z : zp} {la : Array Slot} {vs : List Value} (hF : zFr p s m args meth c cc own nm g scr D A) (hd : decode cc pc = .ok (.iastore, 1)) (h : zast (fun t => Nat.beq t 0) (fun _ v => zfit 0 v) pc ls st hp = some (pc', ls', st', z)) (hW : zW (zX g) D A s H ws hp) (hS0 : va_S A s.heap H locs) (hL : zL (zX g) ws nL ls la) (hS : zS (zX g) ws st vs) (k : zK p l e R s m args below meth c cells slots Q g D A nL ws hp (hap hp z) pc' ls' st') : W p l e R s m args below meth c H locs cells slots Q (F0 m pc la vs) := by
  obtain ⟨ix, v, q, tg, i, fs, rfl, hc, ht, hft, hi, rfl, rfl, rfl⟩ := zast_inv h
  have ht := Nat.eq_of_beq_eq_true ht
  subst ht
  obtain ⟨y0, t0, rfl, hy0, hS1⟩ := zS_cons hS
  obtain ⟨w, t1, rfl, hw, hS2⟩ := zS_cons hS1
  obtain ⟨u, t2, rfl, hu, hS3⟩ := zS_cons hS2
  obtain ⟨x, rfl, rfl, h0, h1, hin⟩ := zix_inv hi hw
  obtain ⟨a, el, rfl, ha, hcell⟩ := zat_cell hW hu hc
  have hcell0 := hcell
  obtain ⟨cA, y, rfl, hy, hAr, ⟨f, hf⟩, hel⟩ := hcell
  obtain ⟨n, y2⟩ := y
  have hf : y2 = .inl f := hf
  subst hf
  have hy : n = fs.length := hy
  subst hy
  obtain ⟨xv, rfl⟩ : ∃ xv, y0 = .int xv := by
    rcases v with _ | (v | _)
    · cases hft
    · obtain ⟨xv, h9, -⟩ := zval_int.mp hy0
      exact ⟨xv, h9⟩
    · cases hft
  refine va_iast hF.1 hF.2.1 (zKt hF.2.2.2.2.2.1 hAr) hW.1 hW.2.1 hS0 q 0 ha rfl hin hd (fun H1 locs1 hP hD hS9 => ?_)
  exact zK_put k hW hc (hup_arr hc) ha (zcell_put (x' := (fs.length, .inl (upd f x.toNatClampNeg xv))) hcell0 rfl ⟨_, rfl⟩ h1 (by simpa [zelt, upd] using hy0) (fun j hj => by simp [zelt, upd, hj])) hP hD hS9 hL hS3
theorem zH_zast {pc pc' : Nat} {ls ls' : List (Option zv)} {st st' : List zv} {z : zp} {la : Array Slot} {vs : List Value} (hF : zFr p s m args meth c cc own nm g scr D A) (hd : decode cc pc = .ok (.bastore, 1)) (h : zast (fun t => Nat.beq t 1) (fun _ v => zfit 1 v) pc ls st hp = some (pc', ls', st', z)) (hW : zW (zX g) D A s H ws hp) (hS0 : va_S A s.heap H locs) (hL : zL (zX g) ws nL ls la) (hS : zS (zX g) ws st vs) (k : zK p l e R s m args below meth c cells slots Q g D A nL ws hp (hap hp z) pc' ls' st') : W p l e R s m args below meth c H locs cells slots Q (F0 m pc la vs) := by
  obtain ⟨ix, v, q, tg, i, fs, rfl, hc, ht, hft, hi, rfl, rfl, rfl⟩ := zast_inv h
  have ht := Nat.eq_of_beq_eq_true ht
  subst ht
  obtain ⟨y0, t0, rfl, hy0, hS1⟩ := zS_cons hS
  obtain ⟨w, t1, rfl, hw, hS2⟩ := zS_cons hS1
  obtain ⟨u, t2, rfl, hu, hS3⟩ := zS_cons hS2
  obtain ⟨x, rfl, rfl, h0, h1, hin⟩ := zix_inv hi hw
  obtain ⟨a, el, rfl, ha, hcell⟩ := zat_cell hW hu hc
  have hcell0 := hcell
  obtain ⟨cA, y, rfl, hy, hAr, ⟨f, hf⟩, hel⟩ := hcell
  obtain ⟨n, y2⟩ := y
  have hf : y2 = .inl f := hf
  subst hf
  have hy : n = fs.length := hy
  subst hy
  obtain ⟨xv, rfl, hnar⟩ : ∃ xv, y0 = .int xv ∧ vp_nar .boolean xv = xv := by
    rcases v with _ | (⟨xv, _ | _⟩ | _)
    · cases hft
    · have hft : (decide (xv = 0) || decide (xv = 1)) = true := hft
      simp only [Bool.or_eq_true, decide_eq_true_eq] at hft
      refine ⟨xv, hy0, ?_⟩
      rcases hft with rfl | rfl <;> decide
    · cases hft
    · cases hft
  refine va_zast hF.1 hF.2.1 (zKt hF.2.2.2.2.2.1 hAr) hW.1 hW.2.1 hS0 q 0 ha rfl hin hd (fun H1 locs1 hP hD hS9 => ?_)
  rw [hnar] at hP hD
  exact zK_put k hW hc (hup_arr hc) ha (zcell_put (x' := (fs.length, .inl (upd f x.toNatClampNeg xv))) hcell0 rfl ⟨_, rfl⟩ h1 (by simpa [zelt, upd] using hy0) (fun j hj => by simp [zelt, upd, hj])) hP hD hS9 hL hS3
theorem zH_last {pc pc' : Nat} {ls ls' : List (Option zv)} {st st' : List zv} {z : zp} {la : Array Slot} {vs : List Value} (hF : zFr p s m args meth c cc own nm g scr D A) (hd : decode cc pc = .ok (.lastore, 1)) (h : zast (fun t => Nat.beq t 2) (fun _ v => zfit 3 v) pc ls st hp = some (pc', ls', st', z)) (hW : zW (zX g) D A s H ws hp) (hS0 : va_S A s.heap H locs) (hL : zL (zX g) ws nL ls la) (hS : zS (zX g) ws st vs) (k : zK p l e R s m args below meth c cells slots Q g D A nL ws hp (hap hp z) pc' ls' st') : W p l e R s m args below meth c H locs cells slots Q (F0 m pc la vs) := by
  obtain ⟨ix, v, q, tg, i, fs, rfl, hc, ht, hft, hi, rfl, rfl, rfl⟩ := zast_inv h
  have ht := Nat.eq_of_beq_eq_true ht
  subst ht
  obtain ⟨y0, t0, rfl, hy0, hS1⟩ := zS_cons hS
  obtain ⟨w, t1, rfl, hw, hS2⟩ := zS_cons hS1
  obtain ⟨u, t2, rfl, hu, hS3⟩ := zS_cons hS2
  obtain ⟨x, rfl, rfl, h0, h1, hin⟩ := zix_inv hi hw
  obtain ⟨a, el, rfl, ha, hcell⟩ := zat_cell hW hu hc
  have hcell0 := hcell
  obtain ⟨cA, y, rfl, hy, hAr, ⟨f, hf⟩, hel⟩ := hcell
  obtain ⟨n, y2⟩ := y
  have hf : y2 = .inr (.inl f) := hf
  subst hf
  have hy : n = fs.length := hy
  subst hy
  obtain ⟨xv, rfl⟩ : ∃ xv, y0 = .long xv := by
    rcases v with _ | (_ | (w9 | _))
    · cases hft
    · cases hft
    · exact ⟨w9, hy0⟩
    · cases hft
  refine va_last hF.1 hF.2.1 (zKt hF.2.2.2.2.2.1 hAr) hW.1 hW.2.1 hS0 q 0 ha rfl hin hd (fun H1 locs1 hP hD hS9 => ?_)
  exact zK_put k hW hc (hup_arr hc) ha (zcell_put (x' := (fs.length, .inr (.inl (vp_updL f x.toNatClampNeg xv)))) hcell0 rfl ⟨_, rfl⟩ h1 (by simpa [zelt, vp_updL] using hy0) (fun j hj => by simp [zelt, vp_updL, hj])) hP hD hS9 hL hS3
theorem zH_aast {pc pc' : Nat} {ls ls' : List (Option zv)} {st st' : List zv} {z : zp} {la : Array Slot} {vs : List Value} (hF : zFr p s m args meth c cc own nm g scr D A) (hd : decode cc pc = .ok (.aastore, 1)) (h : zast (fun t => Nat.ble 3 t && Nat.ble t 4) (fun tg v => zaok hp tg v) pc ls st hp = some (pc', ls', st', z)) (hW : zW (zX g) D A s H ws hp) (hS0 : va_S A s.heap H locs) (hL : zL (zX g) ws nL ls la) (hS : zS (zX g) ws st vs) (k : zK p l e R s m args below meth c cells slots Q g D A nL ws hp (hap hp z) pc' ls' st') : W p l e R s m args below meth c H locs cells slots Q (F0 m pc la vs) := by
  obtain ⟨ix, v, q, tg, i, fs, rfl, hc, ht, hft, hi, rfl, rfl, rfl⟩ := zast_inv h
  simp only [Bool.and_eq_true] at ht
  have ht1 := Nat.le_of_ble_eq_true ht.1
  have ht2 := Nat.le_of_ble_eq_true ht.2
  obtain ⟨y0, t0, rfl, hy0, hS1⟩ := zS_cons hS
  obtain ⟨w, t1, rfl, hw, hS2⟩ := zS_cons hS1
  obtain ⟨u, t2, rfl, hu, hS3⟩ := zS_cons hS2
  obtain ⟨x, rfl, rfl, h0, h1, hin⟩ := zix_inv hi hw
  obtain ⟨a, el, rfl, ha, hcell⟩ := zat_cell hW hu hc
  have hcell0 := hcell
  obtain ⟨cA, y, rfl, hy, hAr, hfm, hel⟩ := hcell
  have htg : tg = 3 ∨ tg = 4 := by omega
  obtain ⟨f, hf⟩ : ∃ f, y.2 = .inr (.inr (.inr (.inr f))) := by
    rcases htg with rfl | rfl <;> exact hfm
  obtain ⟨C, hC⟩ : ∃ C, zty tg = .object C := by
    rcases htg with rfl | rfl <;> exact ⟨_, rfl⟩
  obtain ⟨n, y2⟩ := y
  have hf : y2 = .inr (.inr (.inr (.inr f))) := hf
  subst hf
  have hy : n = fs.length := hy
  subst hy
  have hfm2 : ∀ f2 : Nat → Option Nat, zform tg (fs.length, .inr (.inr (.inr (.inr f2)))) := by
    intro f2
    rcases htg with rfl | rfl <;> exact ⟨f2, rfl⟩
  rcases v with (_ | qv) | _
  · have hy0 : y0 = .null := hy0
    subst hy0
    refine va_astqN (C := C) hF.1 hF.2.1 (zKt hF.2.2.2.2.2.1 hAr) hW.1 hW.2.1 hS0 q 0 ha (by rw [hC]; rfl) hin hd (fun H1 locs1 hP hD hS9 => ?_)
    exact zK_put k hW hc (hup_arr hc) ha (zcell_put (x' := (fs.length, .inr (.inr (.inr (.inr (va_up f x.toNatClampNeg none)))))) hcell0 rfl (hfm2 _) h1 (by simp [zelt, va_up, zval, va_rf]) (fun j hj => by simp [zelt, va_up, hj])) hP hD hS9 hL hS3
  · have hft : (match nth hp qv with
      | some (.inr (c, _)) => (Nat.beq tg 3 || Nat.beq tg 4) && Nat.beq c (zelc tg)
      | _ => false) = true := hft
    rw [nth_eq] at hft
    cases hcv : hp[qv]? with
    | none => rw [hcv] at hft; cases hft
    | some cv =>
      rw [hcv] at hft
      rcases cv with _ | ⟨cv, fv⟩
      · cases hft
      · simp only [Bool.and_eq_true] at hft
        have hcv9 := Nat.eq_of_beq_eq_true hft.2
        subst hcv9
        obtain ⟨av, ev, rfl, hav, vv, rfl, hvv⟩ := zat_cell hW hy0 hcv
        obtain ⟨r9, hr9, hr8⟩ : ∃ r9 : vw_C, vwCl[zelc tg]? = some r9 ∧ zty tg = .object r9.1 := by
          rcases htg with rfl | rfl
          · exact ⟨_, rfl, rfl⟩
          · exact ⟨_, rfl, rfl⟩
        refine va_astq hF.1 hF.2.1 (zKt hF.2.2.2.2.2.1 hAr) hW.1 hW.2.1 hS0 q 0 qv (zelc tg) ha (by rw [hr8]; rfl) hav hr9 hin hd (fun H1 locs1 hP hD hS9 => ?_)
        exact zK_put k hW hc (hup_arr hc) ha (zcell_put (x' := (fs.length, .inr (.inr (.inr (.inr (va_up f x.toNatClampNeg (some av)))))) ) hcell0 rfl (hfm2 _) h1 (by simpa [zelt, va_up, va_rf] using hy0) (fun j hj => by simp [zelt, va_up, hj])) hP hD hS9 hL hS3
  · cases hft
end ZH2
