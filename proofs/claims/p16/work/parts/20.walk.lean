noncomputable def zrm (d mc ms : Nat) : Room := { frames := d + 7, cells := mc, slots := ms, locals := 64 * (d + 4) }
noncomputable def z9 (mi pc ee : Nat) : Prop := (mi = 152 ∧ pc = 14 ∧ ee = 0) ∨ (mi = 153 ∧ pc = 14 ∧ ee = 1)
noncomputable def zFin (g : zg) (cc : ByteArray) (mi : Nat) (o : zo) (ws' : va_W) (pc' : Nat) (vs' : List Value) : Prop :=
  (o = .inl none ∧ vs' = [] ∧ decode cc pc' = .ok (.return_, 1) ∧ ∃ (nL n : Nat) (hs : List (Nat × Nat × Nat × Nat)), zmeth mi = some (nL, 0, n, hs)) ∨
  (∃ (v : zv) (x : Value) (nL k n : Nat) (hs : List (Nat × Nat × Nat × Nat)), o = .inl (some v) ∧ vs' = [x] ∧ zval (zX g) ws' v x ∧ zmeth mi = some (nL, k, n, hs) ∧ zret k v = true ∧ ((decode cc pc' = .ok (.ireturn, 1) ∧ zisI v = true) ∨ (decode cc pc' = .ok (.areturn, 1) ∧ zisA v = true) ∨ (decode cc pc' = .ok (.lreturn, 1) ∧ zisL v = true)))
/-- the ends of a walk -/
noncomputable def zEnd (p : Program) (l : Launch) (e : Env) (R : Room) (s : State) (m : MethodId) (args : Array Value) (below : List Frame) (meth : Method) (c : Code) (Q : State → Prop) (g : zg) (D : va_G) (A : Nat → Prop) (cc : ByteArray) (mi nL : Nat) (o : zo) (h' : zh) (t' : Nat) (cells slots : Nat) (ws : va_W) (h : zh) (t : Nat) : Prop :=
  (∀ (H' : Heap) (locs' : List Loc) (cells' slots' : Nat) (ws' : va_W) (la' : Array Slot) (pc' : Nat) (vs' : List Value), zM ws ws' → zW (zX g) D A s H' ws' h' → va_S A s.heap H' locs' → cells' + (h.length + t) = cells + (h'.length + t') → slots' + (zsl h + 6 * t) = slots + (zsl h' + 6 * t') → zFin g cc mi o ws' pc' vs' → W p l e R s m args below meth c H' locs' cells' slots' Q (F0 m pc' la' vs')) ∧
  (∀ (ee : Nat) (H' : Heap) (locs' : List Loc) (cells' slots' : Nat) (ws' : va_W) (la' : Array Slot) (pc' : Nat), o = .inr ee → la'.size = nL → z9 mi pc' ee → zM ws ws' → zW (zX g) D A s H' ws' h' → va_S A s.heap H' locs' → cells' + 1 + (h.length + t) = cells + (h'.length + t') → slots' + 6 + (zsl h + 6 * t) = slots + (zsl h' + 6 * t') → W p l e R s m args below meth c H' locs' cells' slots' Q (F0 m pc' la' [])) ∧
  (∀ (ee : Nat) (H' : Heap) (locs' : List Loc) (cells' slots' : Nat) (ws' : va_W) (la' : Array Slot) (pc' : Nat) (rest : List Value) (q : Addr) (ce : Cell) (n1 n2 n3 : Nat) (hs : List (Nat × Nat × Nat × Nat)), o = .inr ee → ee ≤ 1 → zmeth mi = some (n1, n2, n3, hs) → zhand hs pc' ee = none → zM ws ws' → zW (zX g) D A s H' ws' h' → va_S A s.heap H' locs' → cells' + (h.length + t) = cells + (h'.length + t') → slots' + (zsl h + 6 * t) = slots + (zsl h' + 6 * t') → H'[q]? = some ce → ce.vm = .none → s.vm.findClass (zEn ee) = some ce.cls → vx_W p l e R s m args below meth c H' locs' cells' slots' Q (F0 m pc' la' rest) q)
section ZWalk
variable {p : Program} {l : Launch} {e : Env} {R : Room} {s : State} {m : MethodId} {args : Array Value} {below : List Frame} {meth : Method} {c : Code} {Q : State → Prop} {g : zg} {D : va_G} {A : Nat → Prop} {cc : ByteArray} {mi nL : Nat} {o : zo} {h' : zh} {t' : Nat}
theorem zEnd_step {cells slots cells1 slots1 : Nat} {ws ws1 : va_W} {h h1 : zh} {t t1 : Nat} (k : zEnd p l e R s m args below meth c Q g D A cc mi nL o h' t' cells slots ws h t) (hm : zM ws ws1) (hc : cells1 + (h.length + t) = cells + (h1.length + t1)) (hs : slots1 + (zsl h + 6 * t) = slots + (zsl h1 + 6 * t1)) : zEnd p l e R s m args below meth c Q g D A cc mi nL o h' t' cells1 slots1 ws1 h1 t1 := by
  refine ⟨fun H' locs' cells' slots' ws' la' pc' vs' a1 a2 a3 a4 a5 a6 => k.1 H' locs' cells' slots' ws' la' pc' vs' (zM_trans hm a1) a2 a3 (by omega) (by omega) a6, fun ee H' locs' cells' slots' ws' la' pc' a0 a9 a1 a2 a3 a4 a5 a6 => k.2.1 ee H' locs' cells' slots' ws' la' pc' a0 a9 a1 (zM_trans hm a2) a3 a4 (by omega) (by omega), fun ee H' locs' cells' slots' ws' la' pc' rest q ce n1 n2 n3 hs9 a0 a00 a1 a2 a3 a4 a5 a6 a7 a8 a9 a10 => k.2.2 ee H' locs' cells' slots' ws' la' pc' rest q ce n1 n2 n3 hs9 a0 a00 a1 a2 (zM_trans hm a3) a4 a5 (by omega) (by omega) a8 a9 a10⟩
/-- behind a call that returns -/
theorem zcallR {pc mc ms : Nat} {la : Array Slot} {vs rest : List Value} {H : Heap} {locs : List Loc} {cells slots : Nat} {ws : va_W} {h1 : zh} {o1 : zo} {a0 : Array Value} (hr : va_Run p l e R s m args below meth c H locs cells slots mc ms (F0 m pc la vs) rest (zQc g D ws h1 H.size o1 a0) (va_A ws H.size)) (hS : va_S A s.heap H locs) (hf : ∀ q, va_A ws H.size q → A q)
    (kk : ∀ (H1 : Heap) (locs1 : List Loc) (ws' : va_W) (vv : Option Value), zM ws ws' → zW (zX g) D A s H1 ws' h1 → va_S A s.heap H1 locs1 → zRv g o1 vv ws' → W p l e R s m args below meth c H1 locs1 (cells + mc) (slots + ms) Q (F0 m (pc + 3) la (vv.toList ++ rest))) : W p l e R s m args below meth c H locs cells slots Q (F0 m pc la vs) := by
  intro T hT X
  obtain ⟨v, st₀, t, T', L, h0, X', hL, e1, e2, ⟨⟨vv, ws', hv, hR, hM, hW⟩, hF⟩, st⟩ := hr T hT X
  cases hv
  obtain ⟨k1, k2, k3⟩ := vx_keep h0 e1 hS (fun q _ z => hf q z) hf hL hF
  have ha : t.vm.Alike s.vm := by rw [← e2]; exact X'.warmed.alike.symm
  obtain ⟨t2, a1, b1⟩ := kk T'.heap (locs ++ L) ws' v hM (by rw [e1]; exact zW_back hW hf ha) k3 hR T' rfl X'
  exact ⟨t2, st t2 a1, b1⟩
/-- behind a call that returns or throws -/
theorem zcallX {pc mc ms : Nat} {la : Array Slot} {vs rest : List Value} {H : Heap} {locs : List Loc} {cells slots : Nat} {ws : va_W} {h1 : zh} {o1 : zo} {a0 : Array Value} (hr : vx_Run p l e R s m args below meth c H locs cells slots mc ms (F0 m pc la vs) rest (zQc g D ws h1 H.size o1 a0) (zXC g D ws h1 H.size o1) (va_A ws H.size)) (hS : va_S A s.heap H locs) (hf : ∀ q, va_A ws H.size q → A q)
    (kx : ∀ (ee : Nat) (H1 : Heap) (locs1 : List Loc) (ws' : va_W) (q : Addr) (ce : Cell), o1 = .inr ee → ee ≤ 1 → zM ws ws' → zW (zX g) D A s H1 ws' h1 → va_S A s.heap H1 locs1 → H1[q]? = some ce → ce.vm = .none → s.vm.findClass (zEn ee) = some ce.cls → vx_W p l e R s m args below meth c H1 locs1 (cells + mc) (slots + ms) Q (F0 m pc la rest) q)
    (kk : ∀ (H1 : Heap) (locs1 : List Loc) (ws' : va_W) (vv : Option Value), zM ws ws' → zW (zX g) D A s H1 ws' h1 → va_S A s.heap H1 locs1 → zRv g o1 vv ws' → W p l e R s m args below meth c H1 locs1 (cells + mc) (slots + ms) Q (F0 m (pc + 3) la (vv.toList ++ rest))) : W p l e R s m args below meth c H locs cells slots Q (F0 m pc la vs) := by
  intro T hT X
  rcases hr T hT X with ⟨v, st₀, t, T', L, h0, X', hL, e1, e2, ⟨⟨vv, ws', hv, hR, hM, hW⟩, hF⟩, st⟩ | ⟨q, st₀, t, T', L, E, ce, h0, X', hL, e1, e2, ⟨⟨ee, ws', ho, rfl, hle, hM, hW⟩, hF⟩, hce, hcv, hcl, st⟩
  · cases hv
    obtain ⟨k1, k2, k3⟩ := vx_keep h0 e1 hS (fun q _ z => hf q z) hf hL hF
    have ha : t.vm.Alike s.vm := by rw [← e2]; exact X'.warmed.alike.symm
    obtain ⟨t2, a1, b1⟩ := kk T'.heap (locs ++ L) ws' v hM (by rw [e1]; exact zW_back hW hf ha) k3 hR T' rfl X'
    exact ⟨t2, st t2 a1, b1⟩
  · obtain ⟨k1, k2, k3⟩ := vx_keep h0 e1 hS (fun q _ z => hf q z) hf hL hF
    have ha : t.vm.Alike s.vm := by rw [← e2]; exact X'.warmed.alike.symm
    obtain ⟨t2, a1, b1⟩ := kx ee T'.heap (locs ++ L) ws' q ce ho hle hM (by rw [e1]; exact zW_back hW hf ha) k3 (by rw [e1]; exact hce) hcv hcl T' rfl X'
    exact ⟨t2, st.trans a1, b1⟩
end ZWalk
/-- the contracts of all callees of a depth -/
noncomputable def zCon (l : Launch) (d : Nat) (call : zC) : Prop := ∀ (mj : Nat) (l0 : List (Option zv)) (h : zh) (t : Nat) (o : zo) (h' : zh) (t' : Nat), call mj l0 h t = some (o, h', t') → mj < 289 → ∀ (M : zmrow), zmd mj = some M → ∀ (args : List zv), zent args M.2.2.1 = some l0 → ∀ (g : zg) (D : va_G) (ws : va_W) (As : List Value) (sz : Nat), zS (zX g) ws args As →
  (∀ v, o = .inl v → M.2.2.2.2.1 = [] → Met l M.1 (zws M) (zrm d ((h'.length + t') - (h.length + t)) ((zsl h' + 6 * t') - (zsl h + 6 * t))) (zPc g D ws h As sz) (zQc g D ws h' sz o) ((h'.length + t') - (h.length + t)) ((zsl h' + 6 * t') - (zsl h + 6 * t)) (va_A ws sz)) ∧
  (M.2.2.2.2.1 = [] → plainName M.1.cls = true → vx_Met l M.1 (zws M) (zrm d ((h'.length + t') - (h.length + t)) ((zsl h' + 6 * t') - (zsl h + 6 * t))) (zPc g D ws h As sz) (zQc g D ws h' sz o) (zXC g D ws h' sz o) ((h'.length + t') - (h.length + t)) ((zsl h' + 6 * t') - (zsl h + 6 * t)) (va_A ws sz)) ∧
  (M.2.2.2.2.1 ≠ [] → vx_Met l M.1 (zws M) (zrm d ((h'.length + t') - (h.length + t)) ((zsl h' + 6 * t') - (zsl h + 6 * t))) (zPc g D ws h As sz) (zQc g D ws h' sz o) (zXC g D ws h' sz o) ((h'.length + t') - (h.length + t)) ((zsl h' + 6 * t') - (zsl h + 6 * t)) (va_A ws sz))
theorem zno1 : zat 0 (.static yL_law) = false := by decide +kernel
theorem zno2 : zat 0 (.instanceMethod yL_law) = false := by decide +kernel
theorem zob1 : Cond.instanceMethod objectInit ∈ zGd := by decide +kernel
theorem zob2 : Cond.code objectInit ⟨#[0xb1]⟩ 1 none ∈ zGd := by decide +kernel
theorem zac1 : Cond.native arraycopyName ∈ zGd := by decide +kernel
theorem zac2 : Cond.static arraycopyName ∈ zGd := by decide +kernel
theorem zac3 : Cond.initialized "java/lang/System" ∈ zGd := by decide +kernel
theorem zmd_lt {mj : Nat} {M : zmrow} (h : zmd mj = some M) : mj < 290 := by
  rcases Nat.lt_or_ge mj 290 with q | q
  · exact q
  · exfalso
    unfold zmd at h
    have h9 : Nat.beq mj 289 = false := by
      cases hb : Nat.beq mj 289 with
      | false => rfl
      | true => have := Nat.eq_of_beq_eq_true hb; omega
    rw [h9] at h
    simp only [cond_false] at h
    rcases Nat.lt_or_ge mj 304 with q2 | q2
    · have h1 : mj / 16 = 18 := by omega
      have h2 : zmt[18]? = some zmg18 := rfl
      rw [h1, h2] at h
      have h3 : zmg18[mj % 16]? = none := List.getElem?_eq_none (by show 2 ≤ _; omega)
      simp only [h3] at h
      cases h
    · have h1 : zmt[mj / 16]? = none := List.getElem?_eq_none (by show 19 ≤ _; omega)
      rw [h1] at h
      cases h
theorem zmd_law : zmd 289 = some (yL_law, cL_law, 7, some .boolean, [], (0, 0, 0, 110)) := rfl
theorem zcw_ne : lw_tbl.all (fun w => match w with
  | .codeWith _ _ _ _ hh => !hh.isEmpty
  | _ => true) = true := by decide +kernel
/-- a method's word is among the tables' good ones -/
theorem zmd_word {mj : Nat} {M : zmrow} (h : zmd mj = some M) (hn : mj ≠ 289) : zwsM M ∈ zGd := by
  unfold zmd at h
  have h9 : Nat.beq mj 289 = false := by
    cases hb : Nat.beq mj 289 with
    | false => rfl
    | true => exact absurd (Nat.eq_of_beq_eq_true hb) hn
  rw [h9] at h
  simp only [cond_false] at h
  cases hg : zmt[mj / 16]? with
  | none => rw [hg] at h; cases h
  | some gg =>
    rw [hg] at h
    simp only at h
    cases hr : gg[mj % 16]? with
    | none => rw [hr] at h; cases h
    | some r =>
      rw [hr] at h
      simp only at h
      cases hw : zlw r.2.2.2.2.2.1 with
      | none => rw [hw] at h; cases h
      | some w =>
        rw [hw] at h
        have hmem := List.mem_of_getElem? (zlw_ok hw)
        cases w
        case code y b mL ret => cases h; exact List.mem_filter.mpr ⟨hmem, rfl⟩
        case codeWith y b mL ret hh =>
          cases h
          cases hh with
          | nil => have h1 := List.all_eq_true.mp zcw_ne _ hmem; cases h1
          | cons a r => exact List.mem_filter.mpr ⟨hmem, rfl⟩
        all_goals cases h
