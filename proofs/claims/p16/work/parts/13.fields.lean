section ZH3
variable {p : Program} {l : Launch} {e : Env} {R : Room} {s : State} {m : MethodId} {args : Array Value} {below : List Frame} {meth : Method} {c : Code} {H : Heap} {locs : List Loc} {cells slots : Nat} {Q : State → Prop}
variable {cc : ByteArray} {g : zg} {D : va_G} {A : Nat → Prop} {own nm : String} {scr : Option (List zv)} {ws : va_W} {hp : zh} {nL : Nat}
theorem zH_get {idx : Nat} {r : zr} {pc pc' : Nat} {ls ls' : List (Option zv)} {st st' : List zv} {z : zp} {la : Array Slot} {vs : List Value} (hF : zFr p s m args meth c cc own nm g scr D A) (hd : decode cc pc = .ok (.getfield idx, 3)) (hw : zwd own nm (.getfield idx) r = true) (h : stH scr (.getfield idx) r pc ls st hp = some (pc', ls', st', z)) (hW : zW (zX g) D A s H ws hp) (hS0 : va_S A s.heap H locs) (hL : zL (zX g) ws nL ls la) (hS : zS (zX g) ws st vs) (k : zK p l e R s m args below meth c cells slots Q g D A nL ws hp (hap hp z) pc' ls' st') : W p l e R s m args below meth c H locs cells slots Q (F0 m pc la vs) := by
  obtain ⟨hx, hb, hown, hts, hnm, hE, hA⟩ := id hF
  rcases st with _ | ⟨(_ | q) | _, st1⟩
  · cases h
  · cases h
  · have h : (bif Nat.beq r.1 50 then (bif Nat.ble 2000000 q && Nat.blt q 3000000 then some (pc + 3, ls, (bif Nat.beq r.2.1 0 then .inl (some (q + 1000000)) else zi 0) :: st1, (none : zp)) else none) else (match nth hp q with
      | some (.inr (c, fs)) => bif Nat.beq c r.1 then (match nth fs r.2.1 with
        | some v => some (pc + 3, ls, v :: st1, (none : zp))
        | none => none) else none
      | _ => none)) = some (pc', ls', st', z) := h
    have hw : (bif Nat.beq r.1 50 then (bif Nat.beq r.2.1 0 then zat r.2.2.2 (.fieldLink own idx "java/lang/String" "value" "[B") else zat r.2.2.2 (.fieldLink own idx "java/lang/String" "coder" "B")) else zfw own idx r) = true := hw
    obtain ⟨u, t1, rfl, hu, hS1⟩ := zS_cons hS
    cases h50 : Nat.beq r.1 50 with
    | true =>
      rw [h50] at h hw
      simp only [cond_true] at h hw
      cases hq : Nat.ble 2000000 q && Nat.blt q 3000000 with
      | false => rw [hq] at h; cases h
      | true =>
        rw [hq] at h
        simp only [Bool.and_eq_true] at hq
        have hq1 := Nat.le_of_ble_eq_true hq.1
        have hq2 : q < 3000000 := by simpa [Nat.blt_eq] using hq.2
        cases h
        rcases hu with ⟨h1, -⟩ | ⟨-, hu⟩
        · omega
        · rcases hu with ⟨h1, -⟩ | ⟨h1, -⟩ | ⟨i, hi, rfl, rfl⟩ | ⟨i, hi, h1, -⟩
          · omega
          · omega
          · have hv := ((hE.2.2.2.2.1.1 i hi).1 0 (by omega))
            cases h0 : Nat.beq r.2.1 0 with
            | true =>
              rw [h0] at hw k
              refine vk_getf hx hb hv.2.2.1 hS0 hown (hts _ (zat_ok hw)) (fun _ q => q) hd (zK_same k hW hS0 hL ⟨?_, hS1⟩)
              exact Or.inr ⟨by omega, Or.inr (Or.inr (Or.inr ⟨i, hi, by omega, rfl⟩))⟩
            | false =>
              rw [h0] at hw k
              exact vk_getf hx hb hv.2.1 hS0 hown (hts _ (zat_ok hw)) (fun _ q => q) hd (zK_same k hW hS0 hL ⟨rfl, hS1⟩)
          · omega
    | false =>
      rw [h50] at h hw
      simp only [cond_false, nth_eq] at h hw
      cases hc : hp[q]? with
      | none => rw [hc] at h; cases h
      | some cl =>
        rw [hc] at h
        rcases cl with _ | ⟨ci, fs⟩
        · cases h
        · have h : (bif Nat.beq ci r.1 then (match fs[r.2.1]? with
            | some v => some (pc + 3, ls, v :: st1, (none : zp))
            | none => none) else none) = some (pc', ls', st', z) := h
          cases hci : Nat.beq ci r.1 with
          | false => rw [hci] at h; cases h
          | true =>
            rw [hci] at h
            have h7 : (match fs[r.2.1]? with
              | some v => some (pc + 3, ls, v :: st1, (none : zp))
              | none => none) = some (pc', ls', st', z) := h
            clear h
            have hci := Nat.eq_of_beq_eq_true hci
            subst hci
            cases hv : fs[r.2.1]? with
            | none => rw [hv] at h7; cases h7
            | some v =>
              rw [hv] at h7
              cases h7
              obtain ⟨a, el, rfl, ha, vv, rfl, hvv⟩ := zat_cell hW hu hc
              obtain ⟨v1, hv1, hv2⟩ := zS_get hvv hv
              unfold zfw at hw
              cases hcl : vwCl[r.1]? with
              | none => rw [hcl] at hw; cases hw
              | some q3 =>
                obtain ⟨C, T, N⟩ := q3
                rw [hcl] at hw
                simp only [Bool.and_eq_true] at hw
                have hk : r.2.1 < N := by simpa [Nat.blt_eq] using hw.1
                have hw := hw.2
                have hin := (zcls hcl).1
                cases hm : Nat.blt r.2.2.2 20000 with
                | true =>
                  rw [hm] at hw
                  exact va_get hx hb hts hin hown hE.1 hW.1 q ha hcl r.2.1 hk (hts _ (zat_ok hw)) (fun _ q => q) hv1 hd (zK_same k hW hS0 hL ⟨hv2, hS1⟩)
                | false =>
                  rw [hm] at hw
                  exact va_getN hx hb hts hin hown hE.1 hW.1 q ha hcl r.2.1 hk (va_Nw.use rfl (hE.2.1 _ (zatN_ok hw) rfl)) (fun _ q => q) hv1 hd (zK_same k hW hS0 hL ⟨hv2, hS1⟩)
  · cases h
theorem zH_put {idx : Nat} {r : zr} {pc pc' : Nat} {ls ls' : List (Option zv)} {st st' : List zv} {z : zp} {la : Array Slot} {vs : List Value} (hF : zFr p s m args meth c cc own nm g scr D A) (hd : decode cc pc = .ok (.putfield idx, 3)) (hw : zwd own nm (.putfield idx) r = true) (h : stH scr (.putfield idx) r pc ls st hp = some (pc', ls', st', z)) (hW : zW (zX g) D A s H ws hp) (hS0 : va_S A s.heap H locs) (hL : zL (zX g) ws nL ls la) (hS : zS (zX g) ws st vs) (k : zK p l e R s m args below meth c cells slots Q g D A nL ws hp (hap hp z) pc' ls' st') : W p l e R s m args below meth c H locs cells slots Q (F0 m pc la vs) := by
  obtain ⟨hx, hb, hown, hts, hnm, hE, hA⟩ := id hF
  rcases st with _ | ⟨v, _ | ⟨(_ | q) | _, st1⟩⟩
  · cases h
  · cases h
  · cases h
  · have h : (match nth hp q with
      | some (.inr (c, fs)) => bif Nat.beq c r.1 && (Nat.blt r.2.1 fs.length && zfit r.2.2.1 v) then some (pc + 3, ls, st1, (some (.inl (q, r.2.1, v)) : zp)) else none
      | _ => none) = some (pc', ls', st', z) := h
    have hw : (zfw own idx r && zpw own nm r) = true := hw
    obtain ⟨y0, t0, rfl, hy0, hS1⟩ := zS_cons hS
    obtain ⟨u, t1, rfl, hu, hS2⟩ := zS_cons hS1
    rw [nth_eq] at h
    cases hc : hp[q]? with
    | none => rw [hc] at h; cases h
    | some cl =>
      rw [hc] at h
      rcases cl with _ | ⟨ci, fs⟩
      · cases h
      · have h : (bif Nat.beq ci r.1 && (Nat.blt r.2.1 fs.length && zfit r.2.2.1 v) then some (pc + 3, ls, st1, (some (.inl (q, r.2.1, v)) : zp)) else none) = some (pc', ls', st', z) := h
        cases hci : Nat.beq ci r.1 && (Nat.blt r.2.1 fs.length && zfit r.2.2.1 v) with
        | false => rw [hci] at h; cases h
        | true =>
          rw [hci] at h
          cases h
          simp only [Bool.and_eq_true] at hci hw
          obtain ⟨hci, hlen, hfit⟩ := hci
          have hci := Nat.eq_of_beq_eq_true hci
          subst hci
          have hlen : r.2.1 < fs.length := by simpa [Nat.blt_eq] using hlen
          obtain ⟨a, el, rfl, ha, vv, rfl, hvv⟩ := zat_cell hW hu hc
          obtain ⟨hw, hw2⟩ := hw
          unfold zfw at hw
          unfold zpw at hw2
          cases hcl : vwCl[r.1]? with
          | none => rw [hcl] at hw; cases hw
          | some q3 =>
            obtain ⟨C, T, N⟩ := q3
            rw [hcl] at hw hw2
            simp only [Bool.and_eq_true] at hw hw2
            have hk : r.2.1 < N := by simpa [Nat.blt_eq] using hw.1
            have hw := hw.2
            obtain ⟨hkd, hw2⟩ := hw2
            have hkd := Nat.eq_of_beq_eq_true hkd
            obtain ⟨hin, hN, ty, hty, hnmn, hkt⟩ := zcls hcl
            have hkt9 := hkt r.2.1 hk
            rw [hkd] at hkt9
            obtain ⟨hn1, hn2⟩ := zfit_ok zX_ref hfit hkt9 hy0
            have hl9 : r.2.1 < vv.length := by rw [zS_len hvv]; exact hlen
            have hcell : zcell (zX g) s ws (.inr (r.1, fs.set r.2.1 v)) (.inr (r.1, vv.set r.2.1 y0)) := ⟨_, rfl, zS_set hvv hy0⟩
            cases hm : Nat.blt r.2.2.2 20000 with
            | true =>
              rw [hm] at hw
              cases hf : Nat.beq (r.2.2.2 / 10000) 1 with
              | true =>
                rw [hf] at hw2
                simp only [cond_true, Bool.and_eq_true, decide_eq_true_eq] at hw2
                exact va_putF hx hb hts hin ty hty hnmn hown hE.1 hW.1 hW.2.1 hS0 q ha hcl r.2.1 hk (hts _ (zat_ok hw)) (fun _ q => q) hw2.1.1 (hnm.trans hw2.1.2) hw2.2 (hty r.2.1 hk) hn1 hn2 hl9 hd (fun H1 locs1 hP hD hS9 => zK_put k hW hc (hup_obj hc) ha hcell hP hD hS9 hL hS2)
              | false =>
                rw [hf] at hw2
                exact va_put hx hb hts hin ty hty hnmn hown hE.1 hW.1 hW.2.1 hS0 q ha hcl r.2.1 hk (hts _ (zat_ok hw)) (fun _ q => q) (by simpa using hw2) (hty r.2.1 hk) hn1 hn2 hl9 hd (fun H1 locs1 hP hD hS9 => zK_put k hW hc (hup_obj hc) ha hcell hP hD hS9 hL hS2)
            | false =>
              rw [hm] at hw
              have hge : 20000 ≤ r.2.2.2 := by
                rcases Nat.lt_or_ge r.2.2.2 20000 with q9 | q9
                · rw [show Nat.blt r.2.2.2 20000 = true by simpa [Nat.blt_eq] using q9] at hm
                  cases hm
                · exact q9
              have hf : Nat.beq (r.2.2.2 / 10000) 1 = false := by
                cases hb9 : Nat.beq (r.2.2.2 / 10000) 1 with
                | false => rfl
                | true =>
                  have := Nat.eq_of_beq_eq_true hb9
                  omega
              rw [hf] at hw2
              exact va_putN hx hb hts hin ty hty hnmn hown hE.1 hW.1 hW.2.1 hS0 q ha hcl r.2.1 hk (va_Nw.use rfl (hE.2.1 _ (zatN_ok hw) rfl)) (fun _ q => q) (by simpa using hw2) (hty r.2.1 hk) hn1 hn2 hl9 hd (fun H1 locs1 hP hD hS9 => zK_put k hW hc (hup_obj hc) ha hcell hP hD hS9 hL hS2)
  · cases h
end ZH3
