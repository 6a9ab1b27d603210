/-! the words that the tables give, the classes, the kinds of arrays -/
noncomputable def zGd : List Cond := lw_tbl.filter goodWord
noncomputable def zchw (f : Nat) : List Cond → List (List Cond) := Nat.rec (motive := fun _ => List Cond → List (List Cond)) (fun _ => []) (fun _ ih l => l.take 32 :: ih (l.drop 32)) f
theorem zchw_at : ∀ (f k : Nat) (l : List Cond) (c : List Cond), (zchw f l)[k]? = some c → c = (l.drop (32 * k)).take 32
  | 0, k, l, c, h => by cases h
  | f + 1, 0, l, c, h => by
    have h : some (l.take 32) = some c := h
    cases h
    rfl
  | f + 1, k + 1, l, c, h => by
    have h : (zchw f (l.drop 32))[k]? = some c := h
    rw [zchw_at f k _ c h, List.drop_drop]
    congr 2
    omega
noncomputable def zlw (p : Nat) : Option Cond := match nth (zchw 64 lw_tbl) (p / 32) with
  | some c => nth c (p % 32)
  | none => none
theorem zlw_ok {p : Nat} {w : Cond} (h : zlw p = some w) : lw_tbl[p]? = some w := by
  unfold zlw at h
  split at h
  · rename_i c e
    rw [nth_eq] at e h
    rw [zchw_at _ _ _ _ e, List.getElem?_take_of_lt (Nat.mod_lt _ (by decide)), List.getElem?_drop] at h
    rw [show 32 * (p / 32) + p % 32 = p from Nat.div_add_mod p 32] at h
    exact h
  · cases h
noncomputable def zat (p : Nat) (w : Cond) : Bool := decide (zlw p = some w) && goodWord w
noncomputable def znest (w : Cond) : Bool := match w with
  | .fieldLinkNest .. => true
  | .methodLinkNest .. => true
  | _ => false
noncomputable def zatN (p : Nat) (w : Cond) : Bool := decide (zlw p = some w)
theorem zat_ok {p : Nat} {w : Cond} (h : zat p w = true) : w ∈ zGd := by
  unfold zat at h
  simp only [Bool.and_eq_true, decide_eq_true_eq] at h
  exact List.mem_filter.mpr ⟨List.mem_of_getElem? (zlw_ok h.1), h.2⟩
theorem zatN_ok {p : Nat} {w : Cond} (h : zatN p w = true) : w ∈ lw_tbl := List.mem_of_getElem? (zlw_ok (of_decide_eq_true h))
noncomputable def zstrs : List (String × Nat × String) := [("HeapJudge$Reader", 76, "emp"), ("HeapJudge$Reader", 92, "ls"), ("HeapJudge$Reader", 121, "("), ("HeapJudge$Reader", 123, ","), ("HeapJudge$Reader", 125, ")"), ("HeapJudge$Reader", 98, "tree"), ("HeapJudge$Reader", 107, "->"), ("HeapJudge$Reader", 113, "="), ("HeapJudge$Reader", 119, "!="), ("HeapJudge$Reader", 84, "*"), ("HeapJudge$Reader", 66, "|-"), ("HeapJudgeModel", 192, "emp"), ("HeapJudgeModel", 161, "ls"), ("HeapJudgeModel", 163, "("), ("HeapJudgeModel", 172, ","), ("HeapJudgeModel", 174, ")"), ("HeapJudgeModel", 180, "tree"), ("HeapJudgeModel", 182, "->"), ("HeapJudgeModel", 184, "="), ("HeapJudgeModel", 186, "!="), ("HeapJudgeModel", 198, "*"), ("HeapJudgeModel", 211, "|-")]
noncomputable def zkt (t : Nat) (ty : FieldType) : Bool := match t, ty with
  | 0, .int => true
  | 1, .boolean => true
  | 2, .object _ => true
  | 2, .array _ => true
  | 3, .long => true
  | _, _ => false

theorem zinX0 : ∀ w ∈ u_ws RX0 TX0 1, w ∈ zGd := by decide +kernel
theorem zktX0 : ∀ k, k < 1 → zkt ((zkinds.getD 0 []).getD k 9) (tyX0 k) = true := by decide +kernel
theorem zinX1 : ∀ w ∈ u_ws RX1 TX1 7, w ∈ zGd := by decide +kernel
theorem zktX1 : ∀ k, k < 7 → zkt ((zkinds.getD 1 []).getD k 9) (tyX1 k) = true := by decide +kernel
theorem zinX2 : ∀ w ∈ u_ws RX2 TX2 3, w ∈ zGd := by decide +kernel
theorem zktX2 : ∀ k, k < 3 → zkt ((zkinds.getD 2 []).getD k 9) (tyX2 k) = true := by decide +kernel
theorem zinX3 : ∀ w ∈ u_ws RX3 TX3 2, w ∈ zGd := by decide +kernel
theorem zktX3 : ∀ k, k < 2 → zkt ((zkinds.getD 3 []).getD k 9) (tyX3 k) = true := by decide +kernel
theorem zinX4 : ∀ w ∈ u_ws RX4 TX4 12, w ∈ zGd := by decide +kernel
theorem zktX4 : ∀ k, k < 12 → zkt ((zkinds.getD 4 []).getD k 9) (tyX4 k) = true := by decide +kernel
theorem zinX5 : ∀ w ∈ u_ws RX5 TX5 6, w ∈ zGd := by decide +kernel
theorem zktX5 : ∀ k, k < 6 → zkt ((zkinds.getD 5 []).getD k 9) (tyX5 k) = true := by decide +kernel
theorem zinX6 : ∀ w ∈ u_ws RX6 TX6 2, w ∈ zGd := by decide +kernel
theorem zktX6 : ∀ k, k < 2 → zkt ((zkinds.getD 6 []).getD k 9) (tyX6 k) = true := by decide +kernel
theorem zinX7 : ∀ w ∈ u_ws RX7 TX7 10, w ∈ zGd := by decide +kernel
theorem zktX7 : ∀ k, k < 10 → zkt ((zkinds.getD 7 []).getD k 9) (tyX7 k) = true := by decide +kernel
theorem zinX8 : ∀ w ∈ u_ws RX8 TX8 2, w ∈ zGd := by decide +kernel
theorem zktX8 : ∀ k, k < 2 → zkt ((zkinds.getD 8 []).getD k 9) (tyX8 k) = true := by decide +kernel
theorem zinX9 : ∀ w ∈ u_ws RX9 TX9 2, w ∈ zGd := by decide +kernel
theorem zktX9 : ∀ k, k < 2 → zkt ((zkinds.getD 9 []).getD k 9) (tyX9 k) = true := by decide +kernel
theorem zinX10 : ∀ w ∈ u_ws RX10 TX10 11, w ∈ zGd := by decide +kernel
theorem zktX10 : ∀ k, k < 11 → zkt ((zkinds.getD 10 []).getD k 9) (tyX10 k) = true := by decide +kernel
theorem zinX11 : ∀ w ∈ u_ws RX11 TX11 11, w ∈ zGd := by decide +kernel
theorem zktX11 : ∀ k, k < 11 → zkt ((zkinds.getD 11 []).getD k 9) (tyX11 k) = true := by decide +kernel
theorem zinX12 : ∀ w ∈ u_ws RX12 TX12 48, w ∈ zGd := by decide +kernel
theorem zktX12 : ∀ k, k < 48 → zkt ((zkinds.getD 12 []).getD k 9) (tyX12 k) = true := by decide +kernel
/-- what is known of a class -/
theorem zcls {ci : Nat} {C : String} {T : u_T} {N : Nat} (h : vwCl[ci]? = some (C, T, N)) : (∀ w ∈ u_ws C T N, w ∈ zGd) ∧ (zkinds.getD ci []).length = N ∧ ∃ ty : Nat → FieldType, (∀ k, k < N → parseFieldDescriptor (T k).2.2.1 = some (ty k)) ∧ (∀ a, a < N → ∀ b, b < N → a ≠ b → (T a).2.1 ≠ (T b).2.1) ∧ (∀ k, k < N → zkt ((zkinds.getD ci []).getD k 9) (ty k) = true) := by
  match ci, h with
  | 0, h => cases h; exact ⟨zinX0, rfl, tyX0, tyX0_ok, nmX0, zktX0⟩
  | 1, h => cases h; exact ⟨zinX1, rfl, tyX1, tyX1_ok, nmX1, zktX1⟩
  | 2, h => cases h; exact ⟨zinX2, rfl, tyX2, tyX2_ok, nmX2, zktX2⟩
  | 3, h => cases h; exact ⟨zinX3, rfl, tyX3, tyX3_ok, nmX3, zktX3⟩
  | 4, h => cases h; exact ⟨zinX4, rfl, tyX4, tyX4_ok, nmX4, zktX4⟩
  | 5, h => cases h; exact ⟨zinX5, rfl, tyX5, tyX5_ok, nmX5, zktX5⟩
  | 6, h => cases h; exact ⟨zinX6, rfl, tyX6, tyX6_ok, nmX6, zktX6⟩
  | 7, h => cases h; exact ⟨zinX7, rfl, tyX7, tyX7_ok, nmX7, zktX7⟩
  | 8, h => cases h; exact ⟨zinX8, rfl, tyX8, tyX8_ok, nmX8, zktX8⟩
  | 9, h => cases h; exact ⟨zinX9, rfl, tyX9, tyX9_ok, nmX9, zktX9⟩
  | 10, h => cases h; exact ⟨zinX10, rfl, tyX10, tyX10_ok, nmX10, zktX10⟩
  | 11, h => cases h; exact ⟨zinX11, rfl, tyX11, tyX11_ok, nmX11, zktX11⟩
  | 12, h => cases h; exact ⟨zinX12, rfl, tyX12, tyX12_ok, nmX12, zktX12⟩
  | k + 13, h => simp [vwCl] at h
noncomputable def zty (tg : Nat) : FieldType := match tg with
  | 0 => .int
  | 1 => .boolean
  | 2 => .long
  | 3 => .object "HeapJudge$Sides"
  | 4 => .object "HeapJudge$Sequent"
  | _ => .array .int
noncomputable def zelt (x : vp_A) (i : Nat) : Value := match x.2 with
  | .inl f => .int (f i)
  | .inr (.inl f) => .long (f i)
  | .inr (.inr (.inl f)) => .float (f i)
  | .inr (.inr (.inr (.inl f))) => .double (f i)
  | .inr (.inr (.inr (.inr f))) => va_rf (f i)
noncomputable def zform (tg : Nat) (x : vp_A) : Prop := match tg with
  | 0 => ∃ f, x.2 = .inl f
  | 1 => ∃ f, x.2 = .inl f
  | 2 => ∃ f, x.2 = .inr (.inl f)
  | _ => ∃ f, x.2 = .inr (.inr (.inr (.inr f)))
noncomputable def zcell (X : Nat → Value → Prop) (s : State) (ws : va_W) (c : zc) (e : va_E) : Prop := match c with
  | .inr (ci, fs) => ∃ vs : List Value, e = .inr (ci, vs) ∧ zS X ws fs vs
  | .inl (tg, fs) => ∃ (cA : ClassId) (x : vp_A), e = .inl (cA, x) ∧ x.1 = fs.length ∧ (ArrOfT s cA (zty tg) ∧ va_RA s cA (zty tg)) ∧ zform tg x ∧ ∀ (i : Nat) (a : zv), fs[i]? = some a → zval X ws a (zelt x i)
noncomputable def zW (X : Nat → Value → Prop) (D : va_G) (A : Nat → Prop) (s : State) (H : Heap) (ws : va_W) (h : zh) : Prop := va_P D vwCl ws H ∧ va_D A ws ∧ ws.length = h.length ∧ h.length ≤ 1000000 ∧ ∀ (k : Nat) (c : zc), h[k]? = some c → ∃ q : Nat × va_E, ws[k]? = some q ∧ zcell X s ws c q.2
noncomputable def zM (ws ws' : va_W) : Prop := ∀ (k : Nat) (q : Nat × va_E), ws[k]? = some q → ∃ q' : Nat × va_E, ws'[k]? = some q' ∧ q'.1 = q.1
theorem zM_refl (ws : va_W) : zM ws ws := fun k q h => ⟨q, h, rfl⟩
theorem zM_trans {w1 w2 w3 : va_W} (h1 : zM w1 w2) (h2 : zM w2 w3) : zM w1 w3 := fun k q h => by
  obtain ⟨q', a, b⟩ := h1 k q h
  obtain ⟨q'', c, d⟩ := h2 k q' a
  exact ⟨q'', c, d.trans b⟩
theorem zM_set {ws : va_W} {p a : Nat} {e0 e : va_E} (hp : ws[p]? = some (a, e0)) : zM ws (ws.set p (a, e)) := fun k q h => by
  by_cases hk : k = p
  · subst hk
    rw [hp] at h
    cases h
    exact ⟨(a, e), List.getElem?_set_self (List.getElem?_eq_some_iff.mp hp).1, rfl⟩
  · exact ⟨q, by rw [List.getElem?_set_ne (Ne.symm hk)]; exact h, rfl⟩
theorem zM_app (ws w2 : va_W) : zM ws (ws ++ w2) := fun k q h => ⟨q, by rw [List.getElem?_append_left (List.getElem?_eq_some_iff.mp h).1]; exact h, rfl⟩
theorem zcell_mono {X : Nat → Value → Prop} {s : State} {ws ws' : va_W} (hm : zM ws ws') {c : zc} {e : va_E} (h : zcell X s ws c e) : zcell X s ws' c e := by
  rcases c with ⟨tg, fs⟩ | ⟨ci, fs⟩
  · obtain ⟨cA, x, h1, h2, h3, h4, h5⟩ := h
    exact ⟨cA, x, h1, h2, h3, h4, fun i a hi => zval_mono hm (h5 i a hi)⟩
  · obtain ⟨vs, h1, h2⟩ := h
    exact ⟨vs, h1, zS_mono hm h2⟩
theorem zcell_moved {X : Nat → Value → Prop} {s U : State} {ws : va_W} (hvm : s.vm.Alike U.vm) {c : zc} {e : va_E} (h : zcell X s ws c e) : zcell X U ws c e := by
  rcases c with ⟨tg, fs⟩ | ⟨ci, fs⟩
  · obtain ⟨cA, x, h1, h2, ⟨h3, h3'⟩, h4, h5⟩ := h
    exact ⟨cA, x, h1, h2, ⟨arrOfT_moved hvm h3, h3'.moved hvm⟩, h4, h5⟩
  · exact h
/-- a place of the world -/
theorem zat_cell {X : Nat → Value → Prop} {D : va_G} {A : Nat → Prop} {s : State} {H : Heap} {ws : va_W} {h : zh} (hW : zW X D A s H ws h) {q : Nat} {v : Value} {c : zc} (hv : zval X ws (.inl (some q)) v) (hc : h[q]? = some c) : ∃ (a : Nat) (e : va_E), v = .ref a ∧ ws[q]? = some (a, e) ∧ zcell X s ws c e := by
  have hq : q < 1000000 := Nat.lt_of_lt_of_le (List.getElem?_eq_some_iff.mp hc).1 hW.2.2.2.1
  rcases hv with ⟨-, z, h1, h2⟩ | ⟨h1, -⟩
  · obtain ⟨z', h3, h4⟩ := hW.2.2.2.2 q c hc
    rw [h1] at h3
    cases h3
    exact ⟨z.1, z.2, h2, h1, h4⟩
  · omega
theorem zW_set {X : Nat → Value → Prop} {D : va_G} {A : Nat → Prop} {s : State} {H H1 : Heap} {ws : va_W} {h : zh} (hW : zW X D A s H ws h) {q a : Nat} {e0 e : va_E} {c0 c1 : zc} (hq : ws[q]? = some (a, e0)) (hc : h[q]? = some c0) (he : zcell X s ws c1 e) (hP : va_P D vwCl (ws.set q (a, e)) H1) (hD : va_D A (ws.set q (a, e))) : zW X D A s H1 (ws.set q (a, e)) (h.set q c1) := by
  refine ⟨hP, hD, by rw [List.length_set, List.length_set]; exact hW.2.2.1, by rw [List.length_set]; exact hW.2.2.2.1, fun k c hk => ?_⟩
  by_cases hkq : k = q
  · subst hkq
    rw [List.getElem?_set_self (List.getElem?_eq_some_iff.mp hc).1] at hk
    cases hk
    exact ⟨(a, e), List.getElem?_set_self (List.getElem?_eq_some_iff.mp hq).1, zcell_mono (zM_set hq) he⟩
  · rw [List.getElem?_set_ne (Ne.symm hkq)] at hk
    obtain ⟨z, h1, h2⟩ := hW.2.2.2.2 k c hk
    exact ⟨z, by rw [List.getElem?_set_ne (Ne.symm hkq)]; exact h1, zcell_mono (zM_set hq) h2⟩
theorem zW_push {X : Nat → Value → Prop} {D : va_G} {A : Nat → Prop} {s : State} {H H1 : Heap} {ws w2 : va_W} {h h2 : zh} (hW : zW X D A s H ws h) (hl : w2.length = h2.length) (hn : h.length + h2.length ≤ 1000000) (hc : ∀ (k : Nat) (c : zc), h2[k]? = some c → ∃ q : Nat × va_E, w2[k]? = some q ∧ zcell X s (ws ++ w2) c q.2) (hP : va_P D vwCl (ws ++ w2) H1) (hD : va_D A (ws ++ w2)) : zW X D A s H1 (ws ++ w2) (h ++ h2) := by
  refine ⟨hP, hD, by rw [List.length_append, List.length_append, hW.2.2.1, hl], by rw [List.length_append]; exact hn, fun k c hk => ?_⟩
  by_cases hkl : k < h.length
  · rw [List.getElem?_append_left hkl] at hk
    obtain ⟨z, h3, h4⟩ := hW.2.2.2.2 k c hk
    exact ⟨z, by rw [List.getElem?_append_left (by rw [hW.2.2.1]; exact hkl)]; exact h3, zcell_mono (zM_app ws w2) h4⟩
  · rw [List.getElem?_append_right (by omega)] at hk
    obtain ⟨z, h3, h4⟩ := hc _ c hk
    exact ⟨z, by rw [List.getElem?_append_right (by rw [hW.2.2.1]; omega), hW.2.2.1]; exact h3, h4⟩
/-- things outside: the script, an unknown reference, the texts and their bytes; (b, L, xs, adK, adV, the two messages) -/
abbrev zg : Type := Nat × Nat × (Nat → Int32) × (Nat → Nat) × (Nat → Nat) × Nat × Nat
noncomputable def zX (g : zg) (k : Nat) (v : Value) : Prop := (k = 1000000 ∧ v = .ref g.1) ∨ (k = 1000001 ∧ (v = .null ∨ ∃ q, v = .ref q)) ∨ (∃ i : Nat, i < 22 ∧ k = 2000000 + i ∧ v = .ref (g.2.2.2.1 i)) ∨ (∃ i : Nat, i < 22 ∧ k = 3000000 + i ∧ v = .ref (g.2.2.2.2.1 i))
theorem zX_ref {g : zg} : ∀ (k : Nat) (v : Value), zX g k v → v = .null ∨ ∃ q, v = .ref q := by
  intro k v h
  rcases h with ⟨-, h⟩ | ⟨-, h⟩ | ⟨i, -, -, h⟩ | ⟨i, -, -, h⟩
  · exact Or.inr ⟨_, h⟩
  · exact h
  · exact Or.inr ⟨_, h⟩
  · exact Or.inr ⟨_, h⟩
noncomputable def zE (g : zg) (scr : Option (List zv)) (D : va_G) (A : Nat → Prop) (U : State) : Prop :=
  va_K D vwCl [] U ∧ (∀ w ∈ lw_tbl, znest w = true → va_Nw w U) ∧ (va_AO "HeapJudge$Sides" U ∧ va_AO "HeapJudge$Sequent" U ∧ va_AOA .int U) ∧
  (va_X g.1 g.2.1 g.2.2.1 U U.heap ∧ g.1 < U.heap.size ∧ ¬ A g.1 ∧ ∀ l : List zv, scr = some l → l.length = g.2.1 ∧ ∀ (i : Nat) (a : zv), l[i]? = some a → zval (zX g) [] a (.int (g.2.2.1 i))) ∧
  ((∀ i : Nat, i < 22 → vk_S 1 [zslen.getD i 0] [zsbyt.getD i []] (fun _ => g.2.2.2.1 i) (fun _ => g.2.2.2.2.1 i) A U U.heap) ∧ (∀ (i : Nat) (q : String × Nat × String), zstrs[i]? = some q → vk_R q.1 q.2.1 q.2.2 (g.2.2.2.1 i) U)) ∧
  (va_Z "java/lang/String" "COMPACT_STRINGS" "Z" (.int 1) A U U.heap ∧ va_Zq "jdk/internal/util/Preconditions" "SIOOBE_FORMATTER" "Ljava/util/function/BiFunction;" A U U.heap) ∧
  (vk_R "HeapJudge" 228 "there is no such thing" g.2.2.2.2.2.1 U ∧ vk_R "HeapJudge" 235 "a number that can't be" g.2.2.2.2.2.2 U ∧ vx_Zq Bundle.tN "UNASSIGNED_STACK" Bundle.steD A U U.heap ∧ vx_Zq Bundle.tN "SUPPRESSED_SENTINEL" Bundle.listD A U U.heap) ∧
  (va_Nc "java/util/NoSuchElementException" "java/lang/IllegalArgumentException" U ∧ va_Nc "java/lang/IllegalArgumentException" "java/util/NoSuchElementException" U)
/-- the field's word -/
noncomputable def zfw (own : String) (idx : Nat) (r : zr) : Bool := match vwCl[r.1]? with
  | some (_, T, N) => Nat.blt r.2.1 N && (bif Nat.blt r.2.2.2 20000 then zat (r.2.2.2 % 10000) (.fieldLink own idx (T r.2.1).1 (T r.2.1).2.1 (T r.2.1).2.2.1) else zatN (r.2.2.2 % 10000) (.fieldLinkNest own idx (T r.2.1).1 (T r.2.1).2.1 (T r.2.1).2.2.1 "HeapJudge"))
  | none => false
noncomputable def zpw (own nm : String) (r : zr) : Bool := match vwCl[r.1]? with
  | some (_, T, _) => Nat.beq ((zkinds.getD r.1 []).getD r.2.1 9) r.2.2.1 && (bif Nat.beq (r.2.2.2 / 10000) 1 then ((T r.2.1).2.2.2 && decide (nm = "<init>")) && decide ((T r.2.1).1 = own) else !(T r.2.1).2.2.2)
  | none => false
/-- what an instruction's words must be -/
noncomputable def zwd (own nm : String) (i : Instr) (r : zr) : Bool := match i with
  | .getfield idx => bif Nat.beq r.1 50 then (bif Nat.beq r.2.1 0 then zat r.2.2.2 (.fieldLink own idx "java/lang/String" "value" "[B") else zat r.2.2.2 (.fieldLink own idx "java/lang/String" "coder" "B")) else zfw own idx r
  | .putfield idx => zfw own idx r && zpw own nm r
  | .new idx => bif Nat.beq r.1 99 then true else (match vwCl[r.1]? with
    | some (C, _, N) => zat r.2.1 (.classLink own idx C) && (zat r.2.2.1 (.instantiable C N) && zat r.2.2.2 (.initialized C))
    | none => false)
  | .newarray t => (match t with
    | .int => Nat.beq r.1 0
    | .boolean => Nat.beq r.1 1
    | .long => Nat.beq r.1 2
    | _ => false) && zat r.2.1 (.arrayClass (newarray.typeOf t))
  | .anewarray idx => (Nat.beq r.1 3 && zat r.2.1 (.classLink own idx "HeapJudge$Sides")) || (Nat.beq r.1 4 && zat r.2.1 (.classLink own idx "HeapJudge$Sequent"))
  | .multianewarray idx _ => zat r.2.1 (.classLink own idx ("[" ++ (FieldType.array .int).toString)) && zat r.2.2.1 (.arrayClass .int)
  | .ldc idx => bif Nat.beq r.1 0 then zat r.2.2.1 (.constant own idx (Int32.ofNat r.2.1)) else (match zstrs[r.2.1]? with
    | some (o, k, _) => decide (o = own) && Nat.beq k idx
    | none => false)
  | .ldc_w idx => zat r.2.2.1 (.constant own idx (Int32.ofNat r.2.1))
  | .ldc2_w idx => zat r.2.2.1 (.constantLong own idx (Int64.ofNat r.2.1))
  | .getstatic idx => bif Nat.beq r.1 0 then zat r.2.2.2 (.fieldLink own idx "java/lang/String" "COMPACT_STRINGS" "Z") else zat r.2.2.2 (.fieldLink own idx "jdk/internal/util/Preconditions" "SIOOBE_FORMATTER" "Ljava/util/function/BiFunction;")
  | _ => true
