theorem hap_mono (h : zh) (z : zp) : h.length ≤ (hap h z).length ∧ zsl h ≤ zsl (hap h z) := by
  rcases z with _ | ⟨k, i, v⟩ | cs
  · exact ⟨Nat.le_refl _, Nat.le_refl _⟩
  · show h.length ≤ (hup h k i v).length ∧ zsl h ≤ zsl (hup h k i v)
    cases hc : h[k]? with
    | none =>
      have e : hup h k i v = h := by unfold hup; rw [hc]
      rw [e]
      exact ⟨Nat.le_refl _, Nat.le_refl _⟩
    | some c =>
      rcases c with ⟨t, fs⟩ | ⟨t, fs⟩
      · obtain ⟨-, e1, e2⟩ := hup_arr (i := i) (v := v) hc
        rw [e1, e2]
        exact ⟨Nat.le_refl _, Nat.le_refl _⟩
      · obtain ⟨-, e1, e2⟩ := hup_obj (i := i) (v := v) hc
        rw [e1, e2]
        exact ⟨Nat.le_refl _, Nat.le_refl _⟩
  · show h.length ≤ (h ++ cs).length ∧ zsl h ≤ zsl (h ++ cs)
    rw [List.length_append, zsl_app]
    omega
/-- more is there, not less -/
noncomputable def zMo (h : zh) (t : Nat) (h' : zh) (t' : Nat) : Prop := h.length + t ≤ h'.length + t' ∧ zsl h + 6 * t ≤ zsl h' + 6 * t'
theorem zMo_trans {h1 h2 h3 : zh} {t1 t2 t3 : Nat} (a : zMo h1 t1 h2 t2) (b : zMo h2 t2 h3 t3) : zMo h1 t1 h3 t3 := ⟨Nat.le_trans a.1 b.1, Nat.le_trans a.2 b.2⟩
noncomputable def zCm (call : zC) : Prop := ∀ (mj : Nat) (l0 : List (Option zv)) (h : zh) (t : Nat) (o : zo) (h' : zh) (t' : Nat), call mj l0 h t = some (o, h', t') → zMo h t h' t'
noncomputable def zFm (ih : zF) : Prop := ∀ (mi pc : Nat) (ls : List (Option zv)) (st : List zv) (h : zh) (t : Nat) (o : zo) (h' : zh) (t' : Nat), ih mi pc ls st h t = some (o, h', t') → zMo h t h' t'
/-- what an instruction was, if the reader went on -/
theorem zgo_inv {scr : Option (List zv)} {call : zC} {ih : zF} {mi pc : Nat} {ls : List (Option zv)} {st : List zv} {h : zh} {t : Nat} {x : zo × zh × Nat} (e : zgo scr call ih mi pc ls st h t = some x) : ∃ (i : Instr) (len : Nat) (r : zr), zfetch mi pc = some (i, len, r) ∧
    ((i = .return_ ∧ zvoid mi st h t = some x) ∨ (i = .ireturn ∧ zfin mi st h t zisI = some x) ∨ (i = .areturn ∧ zfin mi st h t zisA = some x) ∨ (i = .lreturn ∧ zfin mi st h t zisL = some x) ∨
     (((∃ k, i = .invokestatic k) ∨ (∃ k, i = .invokevirtual k) ∨ (∃ k, i = .invokespecial k)) ∧ zcall call ih mi pc ls st h t r = some x) ∨
     ((∃ k, i = .new k) ∧ Nat.beq r.1 99 = true ∧ zthr st r h t = some x) ∨
     ((∀ k, i = .new k → Nat.beq r.1 99 = false) ∧ zstep scr ih mi pc ls st h t i r = some x)) := by
  unfold zgo at e
  cases hf : zfetch mi pc with
  | none => rw [hf] at e; cases e
  | some o =>
    obtain ⟨i, len, r⟩ := o
    rw [hf] at e
    refine ⟨i, len, r, rfl, ?_⟩
    cases i
    case return_ => exact Or.inl ⟨rfl, e⟩
    case ireturn => exact Or.inr (Or.inl ⟨rfl, e⟩)
    case areturn => exact Or.inr (Or.inr (Or.inl ⟨rfl, e⟩))
    case lreturn => exact Or.inr (Or.inr (Or.inr (Or.inl ⟨rfl, e⟩)))
    case invokestatic k => exact Or.inr (Or.inr (Or.inr (Or.inr (Or.inl ⟨Or.inl ⟨k, rfl⟩, e⟩))))
    case invokevirtual k => exact Or.inr (Or.inr (Or.inr (Or.inr (Or.inl ⟨Or.inr (Or.inl ⟨k, rfl⟩), e⟩))))
    case invokespecial k => exact Or.inr (Or.inr (Or.inr (Or.inr (Or.inl ⟨Or.inr (Or.inr ⟨k, rfl⟩), e⟩))))
    case new k =>
      have e : (bif Nat.beq r.1 99 then zthr st r h t else zstep scr ih mi pc ls st h t (.new k) r) = some x := e
      cases h9 : Nat.beq r.1 99 with
      | true => rw [h9] at e; exact Or.inr (Or.inr (Or.inr (Or.inr (Or.inr (Or.inl ⟨⟨k, rfl⟩, rfl, e⟩)))))
      | false => rw [h9] at e; exact Or.inr (Or.inr (Or.inr (Or.inr (Or.inr (Or.inr ⟨fun _ _ => rfl, e⟩)))))
    all_goals exact Or.inr (Or.inr (Or.inr (Or.inr (Or.inr (Or.inr ⟨fun _ q => (by cases q), e⟩)))))
theorem zstep_inv {scr : Option (List zv)} {ih : zF} {mi pc : Nat} {ls : List (Option zv)} {st : List zv} {h : zh} {t : Nat} {i : Instr} {r : zr} {x : zo × zh × Nat} (e : zstep scr ih mi pc ls st h t i r = some x) : ∃ (pc' : Nat) (ls' : List (Option zv)) (st' : List zv) (z : zp), stH scr i r pc ls st h = some (pc', ls', st', z) ∧ ih mi pc' ls' st' (hap h z) t = some x := by
  unfold zstep at e
  cases hs : stH scr i r pc ls st h with
  | none => rw [hs] at e; cases e
  | some q =>
    obtain ⟨pc', ls', st', z⟩ := q
    rw [hs] at e
    simp only [hapK_eq, frc_eq, tick] at e
    exact ⟨pc', ls', st', z, rfl, e⟩
theorem zfin_inv {mi : Nat} {st : List zv} {h : zh} {t : Nat} {f : zv → Bool} {x : zo × zh × Nat} (e : zfin mi st h t f = some x) : ∃ (nL k n : Nat) (hs : List (Nat × Nat × Nat × Nat)) (v : zv), zmeth mi = some (nL, k, n, hs) ∧ st = [v] ∧ zret k v = true ∧ f v = true ∧ x = (.inl (some v), h, t) := by
  unfold zfin at e
  cases hm : zmeth mi with
  | none => rw [hm] at e; cases e
  | some q =>
    obtain ⟨nL, k, n, hs⟩ := q
    rw [hm] at e
    rcases st with _ | ⟨v, _ | ⟨w, r⟩⟩
    · cases e
    · have e : (bif zret k v && f v then some ((.inl (some v) : zo), h, t) else none) = some x := e
      cases hb : zret k v && f v with
      | false => rw [hb] at e; cases e
      | true =>
        rw [hb] at e
        cases e
        simp only [Bool.and_eq_true] at hb
        exact ⟨nL, k, n, hs, v, rfl, rfl, hb.1, hb.2, rfl⟩
    · cases e
theorem zvoid_inv {mi : Nat} {st : List zv} {h : zh} {t : Nat} {x : zo × zh × Nat} (e : zvoid mi st h t = some x) : ∃ (nL n : Nat) (hs : List (Nat × Nat × Nat × Nat)), zmeth mi = some (nL, 0, n, hs) ∧ st = [] ∧ x = (.inl none, h, t) := by
  unfold zvoid at e
  cases hm : zmeth mi with
  | none => rw [hm] at e; cases e
  | some q =>
    obtain ⟨nL, k, n, hs⟩ := q
    rw [hm] at e
    rcases st with _ | ⟨v, r⟩
    · have e : (bif Nat.beq k 0 then some ((.inl none : zo), h, t) else none) = some x := e
      cases hb : Nat.beq k 0 with
      | false => rw [hb] at e; cases e
      | true =>
        rw [hb] at e
        cases e
        have := Nat.eq_of_beq_eq_true hb
        subst this
        exact ⟨nL, n, hs, rfl, rfl, rfl⟩
    · cases e
theorem zthr_inv {st : List zv} {r : zr} {h : zh} {t : Nat} {x : zo × zh × Nat} (e : zthr st r h t = some x) : st = [] ∧ x = (.inr r.2.1, h, t + 1) := by
  rcases st with _ | ⟨v, s⟩
  · cases e; exact ⟨rfl, rfl⟩
  · cases e
theorem zcall_inv {call : zC} {ih : zF} {mi pc : Nat} {ls : List (Option zv)} {st : List zv} {h : zh} {t : Nat} {r : zr} {x : zo × zh × Nat} (e : zcall call ih mi pc ls st h t r = some x) : (Nat.beq r.1 5 = true ∧ zcallO ih mi pc ls st h t = some x) ∨ (Nat.beq r.1 5 = false ∧ Nat.beq r.1 7 = true ∧ zcallC ih mi pc ls st h t = some x) ∨ (Nat.beq r.1 5 = false ∧ Nat.beq r.1 7 = false ∧ zcallM call ih mi pc ls st h t r = some x) := by
  unfold zcall at e
  cases h5 : Nat.beq r.1 5 with
  | true => rw [h5] at e; exact Or.inl ⟨rfl, e⟩
  | false =>
    rw [h5] at e
    simp only [cond_false] at e
    cases h7 : Nat.beq r.1 7 with
    | true => rw [h7] at e; exact Or.inr (Or.inl ⟨rfl, rfl, e⟩)
    | false => rw [h7] at e; exact Or.inr (Or.inr ⟨rfl, rfl, e⟩)
theorem zcallO_inv {ih : zF} {mi pc : Nat} {ls : List (Option zv)} {st : List zv} {h : zh} {t : Nat} {x : zo × zh × Nat} (e : zcallO ih mi pc ls st h t = some x) : ∃ (a : zv) (st' : List zv), st = a :: st' ∧ zisC a = true ∧ zcat st' ≤ 8 ∧ ih mi (pc + 3) ls st' h t = some x := by
  rcases st with _ | ⟨a, st'⟩
  · cases e
  · have e : (bif zisC a && Nat.ble (zcat st') 8 then frc (pc + 3) (fun pc' => tick (ih mi pc' ls st' h t)) else none) = some x := e
    cases hb : zisC a && Nat.ble (zcat st') 8 with
    | false => rw [hb] at e; cases e
    | true =>
      rw [hb] at e
      simp only [cond_true, frc_eq, tick] at e
      simp only [Bool.and_eq_true] at hb
      exact ⟨a, st', rfl, hb.1, Nat.le_of_ble_eq_true hb.2, e⟩
theorem zcpl_len {f0 f1 : List zv} {j k i : Nat} (h0 : j + i ≤ f0.length) (h1 : k + i ≤ f1.length) : (zcpl f0 f1 j k i).length = f1.length := by
  unfold zcpl
  rw [List.length_append, List.length_append, List.length_take, List.length_take, List.length_drop, List.length_drop]
  omega
theorem zcallC_inv {ih : zF} {mi pc : Nat} {ls : List (Option zv)} {st : List zv} {h : zh} {t : Nat} {x : zo × zh × Nat} (e : zcallC ih mi pc ls st h t = some x) : ∃ (n dp b sp a : zv) (st' : List zv) (q0 q1 i j k : Nat) (f0 f1 : List zv), st = n :: dp :: b :: sp :: a :: st' ∧ zarr h a = some (q0, 0, f0) ∧ zarr h b = some (q1, 0, f1) ∧ zcat st' ≤ 8 ∧ zix n (f0.length + 1) = some i ∧ zix sp (f0.length + 1) = some j ∧ zix dp (f1.length + 1) = some k ∧ (j + i ≤ f0.length ∧ k + i ≤ f1.length) ∧ ih mi (pc + 3) ls st' (h.set q1 (.inl (0, zcpl f0 f1 j k i))) t = some x := by
  rcases st with _ | ⟨n, _ | ⟨dp, _ | ⟨b, _ | ⟨sp, _ | ⟨a, st'⟩⟩⟩⟩⟩
  · cases e
  · cases e
  · cases e
  · cases e
  · cases e
  · unfold zcallC at e
    simp only at e
    cases ha : zarr h a with
    | none => rw [ha] at e; cases e
    | some qa =>
      obtain ⟨q0, t0, f0⟩ := qa
      cases hb : zarr h b with
      | none => rw [ha, hb] at e; cases e
      | some qb =>
        obtain ⟨q1, t1, f1⟩ := qb
        rw [ha, hb] at e
        simp only at e
        cases hc : Nat.beq t0 0 && (Nat.beq t1 0 && Nat.ble (zcat st') 8) with
        | false => rw [hc] at e; cases e
        | true =>
          rw [hc] at e
          simp only [cond_true] at e
          simp only [Bool.and_eq_true] at hc
          have e0 := Nat.eq_of_beq_eq_true hc.1
          have e1 := Nat.eq_of_beq_eq_true hc.2.1
          subst e0
          subst e1
          cases hi : zix n (f0.length + 1) with
          | none => rw [hi] at e; cases e
          | some i =>
            cases hj : zix sp (f0.length + 1) with
            | none => rw [hi, hj] at e; cases e
            | some j =>
              cases hk : zix dp (f1.length + 1) with
              | none => rw [hi, hj, hk] at e; cases e
              | some k =>
                rw [hi, hj, hk] at e
                simp only at e
                cases hr : Nat.ble (j + i) f0.length && Nat.ble (k + i) f1.length with
                | false => rw [hr] at e; cases e
                | true =>
                  rw [hr] at e
                  simp only [cond_true, frc_eq, tick] at e
                  simp only [Bool.and_eq_true] at hr
                  exact ⟨n, dp, b, sp, a, st', q0, q1, i, j, k, f0, f1, rfl, ha, hb, Nat.le_of_ble_eq_true hc.2.2, hi, hj, hk, ⟨Nat.le_of_ble_eq_true hr.1, Nat.le_of_ble_eq_true hr.2⟩, e⟩
theorem zback_inv {vt : Bool} {ih : zF} {mi pc : Nat} {ls : List (Option zv)} {rest : List zv} {y : zR} {x : zo × zh × Nat} (e : zback vt ih mi pc ls rest y = some x) : ∃ (o1 : zo) (h1 : zh) (t1 : Nat), y = some (o1, h1, t1) ∧
    ((o1 = .inl none ∧ ih mi (pc + 3) ls rest h1 t1 = some x) ∨ (∃ v, o1 = .inl (some v) ∧ ih mi (pc + 3) ls (v :: rest) h1 t1 = some x) ∨
     (∃ (ee nL k n : Nat) (hs : List (Nat × Nat × Nat × Nat)), o1 = .inr ee ∧ vt = true ∧ zmeth mi = some (nL, k, n, hs) ∧ ((∃ kk, zhand hs pc ee = some kk ∧ ih mi kk ls [.inl (some 1000001)] h1 t1 = some x) ∨ (zhand hs pc ee = none ∧ x = (.inr ee, h1, t1))))) := by
  rcases y with _ | ⟨(_ | v) | ee, h1, t1⟩
  · cases e
  · unfold zback at e
    simp only [frc_eq, tick] at e
    exact ⟨_, h1, t1, rfl, Or.inl ⟨rfl, e⟩⟩
  · unfold zback at e
    simp only [frc_eq, tick] at e
    exact ⟨_, h1, t1, rfl, Or.inr (Or.inl ⟨v, rfl, e⟩)⟩
  · unfold zback at e
    simp only [frc_eq, tick] at e
    refine ⟨_, h1, t1, rfl, Or.inr (Or.inr ?_)⟩
    cases vt with
    | false => cases e
    | true =>
    simp only [cond_true] at e
    cases hm : zmeth mi with
    | none => rw [hm] at e; cases e
    | some q =>
      obtain ⟨nL, k, n, hs⟩ := q
      rw [hm] at e
      simp only at e
      refine ⟨ee, nL, k, n, hs, rfl, rfl, rfl, ?_⟩
      cases hh : zhand hs pc ee with
      | none => rw [hh] at e; cases e; exact Or.inr ⟨rfl, rfl⟩
      | some kk => rw [hh] at e; exact Or.inl ⟨kk, rfl, e⟩
theorem zcallM_inv {call : zC} {ih : zF} {mi pc : Nat} {ls : List (Option zv)} {st : List zv} {h : zh} {t : Nat} {r : zr} {x : zo × zh × Nat} (e : zcallM call ih mi pc ls st h t r = some x) : ∃ (nL k n : Nat) (hs : List (Nat × Nat × Nat × Nat)) (args rest : List zv) (l0 : List (Option zv)), zmeth r.2.1 = some (nL, k, n, hs) ∧ zpop n [] st = some (args, rest) ∧ zcat rest ≤ 8 ∧ zargs r args h = true ∧ zent args nL = some l0 ∧ zback (Nat.beq r.1 0) ih mi pc ls rest (call r.2.1 l0 h t) = some x := by
  unfold zcallM at e
  cases hm : zmeth r.2.1 with
  | none => rw [hm] at e; cases e
  | some q =>
    obtain ⟨nL, k, n, hs⟩ := q
    rw [hm] at e
    simp only at e
    cases hp : zpop n [] st with
    | none => rw [hp] at e; cases e
    | some q2 =>
      obtain ⟨args, rest⟩ := q2
      rw [hp] at e
      simp only at e
      cases hb : Nat.ble (zcat rest) 8 && zargs r args h with
      | false => rw [hb] at e; cases e
      | true =>
        rw [hb] at e
        simp only [cond_true] at e
        simp only [Bool.and_eq_true] at hb
        cases hl : zent args nL with
        | none => rw [hl] at e; cases e
        | some l0 =>
          rw [hl] at e
          exact ⟨nL, k, n, hs, args, rest, l0, rfl, hp, Nat.le_of_ble_eq_true hb.1, hb.2, hl, e⟩
theorem zgo_mono {scr : Option (List zv)} {call : zC} {ih : zF} (hc : zCm call) (hi : zFm ih) : zFm (zgo scr call ih) := by
  intro mi pc ls st h t o h' t' e
  obtain ⟨i, len, r, -, hx⟩ := zgo_inv e
  rcases hx with ⟨-, e⟩ | ⟨-, e⟩ | ⟨-, e⟩ | ⟨-, e⟩ | ⟨-, e⟩ | ⟨-, -, e⟩ | ⟨-, e⟩
  · obtain ⟨_, _, _, _, _, hx⟩ := zvoid_inv e
    cases hx
    exact ⟨Nat.le_refl _, Nat.le_refl _⟩
  · obtain ⟨_, _, _, _, _, _, _, _, _, hx⟩ := zfin_inv e
    cases hx
    exact ⟨Nat.le_refl _, Nat.le_refl _⟩
  · obtain ⟨_, _, _, _, _, _, _, _, _, hx⟩ := zfin_inv e
    cases hx
    exact ⟨Nat.le_refl _, Nat.le_refl _⟩
  · obtain ⟨_, _, _, _, _, _, _, _, _, hx⟩ := zfin_inv e
    cases hx
    exact ⟨Nat.le_refl _, Nat.le_refl _⟩
  · rcases zcall_inv e with ⟨-, e⟩ | ⟨-, -, e⟩ | ⟨-, -, e⟩
    · obtain ⟨_, _, _, _, _, e⟩ := zcallO_inv e
      exact hi _ _ _ _ _ _ _ _ _ e
    · obtain ⟨_, _, _, _, _, _, _, q1, i, j, k, f0, f1, _, _, hb, _, _, _, _, hl, e⟩ := zcallC_inv e
      have m1 := hi _ _ _ _ _ _ _ _ _ e
      have hz : zsl (h.set q1 (.inl (0, zcpl f0 f1 j k i))) = zsl h := zsl_set (zarr_inv hb).2 (zcpl_len hl.1 hl.2)
      have hn : (h.set q1 (.inl (0, zcpl f0 f1 j k i))).length = h.length := List.length_set
      exact ⟨by have := m1.1; rw [hn] at this; exact this, by have := m1.2; rw [hz] at this; exact this⟩
    · obtain ⟨_, _, _, _, _, _, _, _, _, _, _, _, e⟩ := zcallM_inv e
      obtain ⟨o1, h1, t1, e1, hx⟩ := zback_inv e
      have m1 := hc _ _ _ _ _ _ _ e1
      rcases hx with ⟨-, e⟩ | ⟨v, -, e⟩ | ⟨ee, nL, k, n, hs, -, -, -, ⟨kk, -, e⟩ | ⟨-, hx⟩⟩
      · exact zMo_trans m1 (hi _ _ _ _ _ _ _ _ _ e)
      · exact zMo_trans m1 (hi _ _ _ _ _ _ _ _ _ e)
      · exact zMo_trans m1 (hi _ _ _ _ _ _ _ _ _ e)
      · cases hx
        exact m1
  · obtain ⟨-, hx⟩ := zthr_inv e
    cases hx
    exact ⟨by omega, by omega⟩
  · obtain ⟨pc', ls', st', z, -, e⟩ := zstep_inv e
    have m1 := hi _ _ _ _ _ _ _ _ _ e
    have m2 := hap_mono h z
    exact ⟨Nat.le_trans (by omega) m1.1, Nat.le_trans (by omega) m1.2⟩
theorem zloop_mono {scr : Option (List zv)} {call : zC} (hc : zCm call) : ∀ n : Nat, zFm (zloop scr call n)
  | 0 => fun _ _ _ _ _ _ _ _ _ e => (by cases e)
  | n + 1 => zgo_mono (ih := zloop scr call n) hc (zloop_mono hc n)
theorem zrun_mono (nn : Nat) : ∀ d : Nat, zCm (zrun nn d)
  | 0 => fun _ _ _ _ _ _ _ e => (by cases e)
  | d + 1 => fun mj l0 h t o h' t' e => zloop_mono (scr := none) (zrun_mono nn d) nn mj 0 l0 [] h t o h' t' e
