/-! a sequent of the class -/
theorem e_rnV {d t : Nat} {τ : List Nat} {h : zh} {oo yo : Int} {xo xy : Int32} (hg : hG τ h) {RA IA : Nat} {l : List it4} (tRA : τ[RA]? = some 1004) (tIA : τ[IA]? = some 1007) (pA : hsl h RA 0 = some (.inl (some IA))) (r : rwC h RA IA l) (n3 : RA ≠ IA) (ok : okL l) (exo : xo.toInt = oo) (ho : 0 ≤ oo ∧ oo ≤ 20) (exy : xy.toInt = yo) (hyo : 0 ≤ yo ∧ yo ≤ 20) (ne : oo ≠ yo) : qV (d + 1) 72 [some (.inl (some RA)), some (zi xo), some (zi xy), none, none] h t (fun h1 => hG τ h1 ∧ rwC h1 RA IA (l.map (mI (rnV oo yo))) ∧ ∀ k j, k ≠ IA → hsl h1 k j = hsl h k j) := by
  obtain ⟨xl, hl, el⟩ := r.1
  obtain ⟨x9, e9, l9, u9⟩ := g_int (i := 1) (lo := 0) (hi := 14) hg tRA aw1004 (by decide) rfl
  have e8 := hl.symm.trans e9
  cases e8
  refine qV_of ?_
  refine y_ic (c := 0) (len := 1) (r := (0, 0, 0, 0)) (by decide +kernel) (by decide) (fun y2527 hy2527 => ?_)
  refine y_same (i := .istore_n 3) (len := 1) (r := (0, 0, 0, 0)) (pc' := 2) (ls' := [some (.inl (some RA)), some (zi xo), some (zi xy), some (zi y2527), none]) (st' := []) (by decide +kernel) (fun k q => by cases q) rfl ?_
  exact rnV_l tRA tIA n3 ok el (by omega) exo ho exy hyo ne (l.length + 1) h 0 y2527 none hg pA hl (fun j q hj => absurd hj (Nat.not_lt_zero j)) (fun j q _ hq => r.2 j q hq) (fun k j _ => rfl) (by omega) (by omega) (by omega)
theorem qV_mono {d mj : Nat} {l0 : List (Option zv)} {h : zh} {t : Nat} {R R' : zh → Prop} (k : qV d mj l0 h t R) (e : ∀ h1, R h1 → R' h1) : qV d mj l0 h t R' := by
  obtain ⟨h1, k, r⟩ := k
  exact ⟨h1, k, e h1 r⟩
theorem qI_mono {d mj : Nat} {l0 : List (Option zv)} {h : zh} {t : Nat} {R R' : Int32 → zh → Prop} (k : qI d mj l0 h t R) (e : ∀ y h1, R y h1 → R' y h1) : qI d mj l0 h t R' := by
  obtain ⟨y, h1, k, r⟩ := k
  exact ⟨y, h1, k, e y h1 r⟩
def tyQ (τ : List Nat) (a : Nat) : Prop := τ[a]? = some 1008 ∧ τ[a + 1]? = some 1009 ∧ τ[a + 2]? = some 1010 ∧ τ[a + 3]? = some 1004 ∧ τ[a + 4]? = some 1007 ∧ τ[a + 5]? = some 1004 ∧ τ[a + 6]? = some 1007 ∧ τ[a + 7]? = some 1004 ∧ τ[a + 8]? = some 1007
def laQ (h : zh) (a : Nat) : Prop := rfs h a 0 (a + 1) ∧ rfs h a 1 (a + 3) ∧ rfs h a 2 (a + 5) ∧ rfs h a 3 (a + 7) ∧ rfs h (a + 1) 0 (a + 2) ∧ rfs h (a + 3) 0 (a + 4) ∧ rfs h (a + 5) 0 (a + 6) ∧ rfs h (a + 7) 0 (a + 8)
def sqC (h : zh) (a : Nat) (s : sqT) : Prop := rwC h (a + 3) (a + 4) s.1 ∧ rwC h (a + 5) (a + 6) s.2.1 ∧ rwC h (a + 7) (a + 8) s.2.2.1 ∧ dC h (a + 2) 0 s.2.2.2
/-- parts: a tree tells one variable, a cell and a list two; claims -/
def okPt (p : it4) : Prop := okV p ∧ (p.1 ≠ 1 → p.2.2.2 = 0) ∧ (p.1 = 3 → p.2.2.1 = 0)
def okCl (p : it4) : Prop := okV p ∧ p.1 ≤ 1 ∧ p.2.2.2 = 0
def okQ (s : sqT) : Prop := (∀ p ∈ s.1, okPt p) ∧ (∀ p ∈ s.2.1, okPt p) ∧ (∀ p ∈ s.2.2.1, okCl p) ∧ okD s.2.2.2
def QC (τ : List Nat) (h : zh) (a : Nat) (s : sqT) : Prop := hG τ h ∧ tyQ τ a ∧ laQ h a ∧ sqC h a s ∧ okQ s
def FQ (a : Nat) (h h1 : zh) : Prop := ∀ k j, (k ≤ a ∨ a + 9 ≤ k) → hsl h1 k j = hsl h k j
theorem FQ_tr {a : Nat} {h h1 h2 : zh} (x : FQ a h h1) (y : FQ a h1 h2) : FQ a h h2 := fun k j c => (y k j c).trans (x k j c)
theorem QC_fr {τ : List Nat} {h h1 : zh} {a b : Nat} {s : sqT} (Q : QC τ h b s) (g : hG τ h1) (F : FQ a h h1) (ne : b + 9 ≤ a ∨ a + 9 ≤ b) : QC τ h1 b s := by
  obtain ⟨-, ty, ⟨l1, l2, l3, l4, l5, l6, l7, l8⟩, ⟨r1, r2, r3, r4⟩, ok⟩ := Q
  exact ⟨g, ty, ⟨rfs_up l1 (F _ _ (by omega)), rfs_up l2 (F _ _ (by omega)), rfs_up l3 (F _ _ (by omega)), rfs_up l4 (F _ _ (by omega)), rfs_up l5 (F _ _ (by omega)), rfs_up l6 (F _ _ (by omega)), rfs_up l7 (F _ _ (by omega)), rfs_up l8 (F _ _ (by omega))⟩, ⟨rwC_up r1 (F _ _ (by omega)) (fun j => F _ _ (by omega)), rwC_up r2 (F _ _ (by omega)) (fun j => F _ _ (by omega)), rwC_up r3 (F _ _ (by omega)) (fun j => F _ _ (by omega)), dC_up r4 (fun j => F _ _ (by omega))⟩, ok⟩
theorem okL_Pt {l : List it4} (h : ∀ p ∈ l, okPt p) : okL l := fun j i hj => (h i (List.mem_of_getElem? hj)).1
theorem okL_Cl {l : List it4} (h : ∀ p ∈ l, okCl p) : okL l := fun j i hj => (h i (List.mem_of_getElem? hj)).1
theorem okQ_L {s : sqT} {k : Nat} {i : it4} (o : okQ s) (h : s.1[k]? = some i) : okPt i := o.1 i (List.mem_of_getElem? h)
theorem okQ_R {s : sqT} {k : Nat} {i : it4} (o : okQ s) (h : s.2.1[k]? = some i) : okPt i := o.2.1 i (List.mem_of_getElem? h)
theorem okQ_C {s : sqT} {k : Nat} {i : it4} (o : okQ s) (h : s.2.2.1[k]? = some i) : okCl i := o.2.2.1 i (List.mem_of_getElem? h)
theorem mem_er {α : Type} {l : List α} {k : Nat} {x : α} (h : x ∈ l.eraseIdx k) : x ∈ l := (List.eraseIdx_sublist l k).subset h
theorem mem_ins {l : List it4} {k : Nat} {a x : it4} (h : x ∈ ins_ l k a) : x = a ∨ x ∈ l := by
  unfold ins_ at h
  rcases List.mem_append.mp h with q | q
  · exact Or.inr (List.mem_of_mem_take q)
  · rcases List.mem_cons.mp q with q | q
    · exact Or.inl q
    · exact Or.inr (List.mem_of_mem_drop q)
theorem mem_st {l : List it4} {k : Nat} {a x : it4} (h : x ∈ l.set k a) : x = a ∨ x ∈ l := (List.mem_or_eq_of_mem_set h).symm
theorem rn1_r {a b v : Int} (ha : 0 ≤ a ∧ a ≤ 20) (hb : 0 ≤ b ∧ b ≤ 20) (hv : 0 ≤ v ∧ v ≤ 20) : 0 ≤ rn1 a b v ∧ rn1 a b v ≤ 20 := by
  unfold rn1
  split <;> omega
theorem rn1_0 {a b : Int} (ha : 0 ≤ a ∧ a ≤ 20) (hb : 0 ≤ b ∧ b ≤ 20) : rn1 a b 0 = 0 := by
  unfold rn1
  split <;> omega
theorem okV_m {a b : Int} {p : it4} (ha : 0 ≤ a ∧ a ≤ 20) (hb : 0 ≤ b ∧ b ≤ 20) (o : okV p) : okV (mI (rn1 a b) p) := ⟨o.1, rn1_r ha hb o.2.1, rn1_r ha hb o.2.2.1, rn1_r ha hb o.2.2.2⟩
theorem okP_m {a b : Int} {p : it4} (ha : 0 ≤ a ∧ a ≤ 20) (hb : 0 ≤ b ∧ b ≤ 20) (o : okPt p) : okPt (mI (rn1 a b) p) := ⟨okV_m ha hb o.1, fun q => by
    show rn1 a b p.2.2.2 = 0
    rw [o.2.1 q, rn1_0 ha hb], fun q => by
    show rn1 a b p.2.2.1 = 0
    rw [o.2.2 q, rn1_0 ha hb]⟩
theorem okC_m {a b : Int} {p : it4} (ha : 0 ≤ a ∧ a ≤ 20) (hb : 0 ≤ b ∧ b ≤ 20) (o : okCl p) : okCl (mI (rn1 a b) p) := ⟨okV_m ha hb o.1, o.2.1, by
    show rn1 a b p.2.2.2 = 0
    rw [o.2.2, rn1_0 ha hb]⟩
theorem okD_m {a b : Int} {D : dfT} (ha : 0 ≤ a ∧ a ≤ 20) (hb : 0 ≤ b ∧ b ≤ 20) (o : okD D) : okD (Dm (rn1 a b) D) := by
  refine ⟨fun x y h => ?_, fun x y h => ?_⟩
  · obtain ⟨x', y', h, e1, e2⟩ := h
    rw [← e1, ← e2]
    exact ⟨rn1_r ha hb (o.1 _ _ h).1, rn1_r ha hb (o.1 _ _ h).2⟩
  · obtain ⟨x', y', h, e1, e2⟩ := h
    exact ⟨y', x', o.2 _ _ h, e2, e1⟩
theorem okQ_m {a b : Int} {s : sqT} (ha : 0 ≤ a ∧ a ≤ 20) (hb : 0 ≤ b ∧ b ≤ 20) (o : okQ s) : okQ (mkQ a b s) := by
  refine ⟨fun p hp => ?_, fun p hp => ?_, fun p hp => ?_, okD_m ha hb o.2.2.2⟩
  · obtain ⟨q, m, e⟩ := List.mem_map.mp hp
    rw [← e]
    exact okP_m ha hb (o.1 q m)
  · obtain ⟨q, m, e⟩ := List.mem_map.mp hp
    rw [← e]
    exact okP_m ha hb (o.2.1 q m)
  · obtain ⟨q, m, e⟩ := List.mem_map.mp hp
    rw [← e]
    exact okC_m ha hb (o.2.2.1 q m)
theorem okD_kp {B : Int → Prop} {D : dfT} (o : okD D) : okD (dKp B D) := ⟨fun x y h => o.1 x y h.1, fun x y h => ⟨o.2 x y h.1, h.2.2, h.2.1⟩⟩
theorem okS_Q {s : sqT} (o : okQ s) : okS s := by
  refine ⟨fun p hp => (o.1 p hp).2.2, fun p hp => ?_, fun a b h => ⟨(o.2.2.2.1 a b h).1.1, (o.2.2.2.1 a b h).2.1⟩⟩
  have v : okV p := by
    rcases List.mem_append.mp hp with q | q
    · exact (o.1 p q).1
    · rcases List.mem_append.mp q with q | q
      · exact (o.2.1 p q).1
      · exact (o.2.2.1 p q).1
  exact ⟨v.2.1.1, v.2.2.1.1, v.2.2.2.1⟩
theorem rn1_self {a v : Int} : rn1 a a v = v := by
  unfold rn1
  split <;> omega
theorem mkQ_self {a : Int} {s : sqT} : mkQ a a s = s := by
  have e : rn1 a a = id := funext fun v => rn1_self
  have e1 : mI (rn1 a a) = id := by
    rw [e]
    rfl
  unfold mkQ
  rw [e1, List.map_id, List.map_id, List.map_id, e]
  have e2 : Dm id s.2.2.2 = s.2.2.2 := by
    funext x y
    exact propext ⟨fun ⟨x', y', h, a1, a2⟩ => by
      have a1 : x' = x := a1
      have a2 : y' = y := a2
      rw [← a1, ← a2]
      exact h, fun h => ⟨x, y, h, rfl, rfl⟩⟩
  rw [e2]
theorem QC_L {τ : List Nat} {h h1 : zh} {a : Nat} {s : sqT} {l : List it4} (Q : QC τ h a s) (g : hG τ h1) (r : rwC h1 (a + 3) (a + 4) l) (F : ∀ k j, (k ≠ a + 4 ∧ (k ≠ a + 3 ∨ j ≠ 1)) → hsl h1 k j = hsl h k j) (ok : okQ (l, s.2)) : QC τ h1 a (l, s.2) ∧ FQ a h h1 := by
  obtain ⟨-, ty, ⟨l1, l2, l3, l4, l5, l6, l7, l8⟩, ⟨r1, r2, r3, r4⟩, -⟩ := Q
  exact ⟨⟨g, ty, ⟨rfs_up l1 (F _ _ (by omega)), rfs_up l2 (F _ _ (by omega)), rfs_up l3 (F _ _ (by omega)), rfs_up l4 (F _ _ (by omega)), rfs_up l5 (F _ _ (by omega)), rfs_up l6 (F _ _ (by omega)), rfs_up l7 (F _ _ (by omega)), rfs_up l8 (F _ _ (by omega))⟩, ⟨r, rwC_up r2 (F _ _ (by omega)) (fun j => F _ _ (by omega)), rwC_up r3 (F _ _ (by omega)) (fun j => F _ _ (by omega)), dC_up r4 (fun j => F _ _ (by omega))⟩, ok⟩, fun k j hC => F k j (by omega)⟩
theorem q_szL {τ : List Nat} {h : zh} {a : Nat} {s : sqT} (Q : QC τ h a s) : ∃ x : Int32, hsl h (a + 3) 1 = some (zi x) ∧ x.toInt = (s.1.length : Int) ∧ s.1.length ≤ 14 := by
  obtain ⟨x, e, f⟩ := (Q.2.2.2.1.1).1
  obtain ⟨x9, e9, l9, u9⟩ := g_int (i := 1) (lo := 0) (hi := 14) Q.1 Q.2.1.2.2.2.1 aw1004 (by decide) rfl
  have e8 := e.symm.trans e9
  cases e8
  exact ⟨x, e, f, by omega⟩
theorem q_tlL {d t k w a : Nat} {τ : List Nat} {h : zh} {s : sqT} {i : it4} {xk xw : Int32} (Q : QC τ h a s) (exk : xk.toInt = (k : Int)) (hk : s.1[k]? = some i) (exw : xw.toInt = (w : Int)) (hw : w < 4) : qI (d + 1) 64 [some (.inl (some (a + 3))), some (zi xk), some (zi xw)] h t (fun y h1 => h = h1 ∧ y.toInt = cmp_ i w) := e_tlV Q.1 Q.2.1.2.2.2.1 Q.2.1.2.2.2.2.1 Q.2.2.1.2.2.2.2.2.1 Q.2.2.2.1.1 exk hk ((okL_Pt Q.2.2.2.2.1) k i hk) exw hw
theorem q_itL {d t k a : Nat} {τ : List Nat} {h : zh} {s : sqT} {i : it4} {xk : Int32} (Q : QC τ h a s) (exk : xk.toInt = (k : Int)) (hk : s.1[k]? = some i) : qI (d + 1) 65 [some (.inl (some (a + 3))), some (zi xk)] h t (fun y h1 => h = h1 ∧ y.toInt = pk i) := e_itV Q.1 Q.2.1.2.2.2.1 Q.2.1.2.2.2.2.1 Q.2.2.1.2.2.2.2.2.1 Q.2.2.2.1.1 exk hk
theorem okQ_erL {s : sqT} {k : Nat} (o : okQ s) : okQ (s.1.eraseIdx k, s.2) := ⟨fun p hp => o.1 p (mem_er hp), o.2.1, o.2.2.1, o.2.2.2⟩
theorem q_rmL {d t k a : Nat} {τ : List Nat} {h : zh} {s : sqT} {xk : Int32} (Q : QC τ h a s) (exk : xk.toInt = (k : Int)) (hk : k < s.1.length) : qV (d + 1) 70 [some (.inl (some (a + 3))), some (zi xk), none] h t (fun h1 => QC τ h1 a (s.1.eraseIdx k, s.2) ∧ FQ a h h1) := qV_mono (e_rm14 Q.1 Q.2.1.2.2.2.1 Q.2.1.2.2.2.2.1 (by omega) Q.2.2.1.2.2.2.2.2.1 Q.2.2.2.1.1 exk hk) (fun h1 ⟨g, r, F⟩ => QC_L Q g r F (okQ_erL Q.2.2.2.2))
theorem q_stL {d t k a : Nat} {τ : List Nat} {h : zh} {s : sqT} {p : it4} {xk xp : Int32} (Q : QC τ h a s) (exk : xk.toInt = (k : Int)) (hk : k < s.1.length) (exp : xp.toInt = pk p) (ok : okPt p) : qV (d + 1) 69 [some (.inl (some (a + 3))), some (zi xk), some (zi xp)] h t (fun h1 => QC τ h1 a (s.1.set k p, s.2) ∧ FQ a h h1) := qV_mono (e_setV Q.1 Q.2.1.2.2.2.1 Q.2.1.2.2.2.2.1 Q.2.2.1.2.2.2.2.2.1 Q.2.2.2.1.1 (by omega) exk hk exp) (fun h1 ⟨g, r, F⟩ => QC_L Q g r (fun k j hC => F k j hC.1) ⟨fun q hq => (mem_st hq).elim (fun e => by rw [e]; exact ok) (Q.2.2.2.2.1 q), Q.2.2.2.2.2.1, Q.2.2.2.2.2.2.1, Q.2.2.2.2.2.2.2⟩)
theorem q_inL {d t k a : Nat} {τ : List Nat} {h : zh} {s : sqT} {p : it4} {xk xp : Int32} (Q : QC τ h a s) (exk : xk.toInt = (k : Int)) (hk : k ≤ s.1.length) (h14 : s.1.length < 14) (exp : xp.toInt = pk p) (ok : okPt p) : qV (d + 1) 68 [some (.inl (some (a + 3))), some (zi xk), some (zi xp), none] h t (fun h1 => QC τ h1 a (ins_ s.1 k p, s.2) ∧ FQ a h h1) := qV_mono (e_insV Q.1 Q.2.1.2.2.2.1 Q.2.1.2.2.2.2.1 Q.2.2.1.2.2.2.2.2.1 Q.2.2.2.1.1 (by omega) exk hk h14 exp) (fun h1 ⟨g, r, F⟩ => QC_L Q g r F ⟨fun q hq => (mem_ins hq).elim (fun e => by rw [e]; exact ok) (Q.2.2.2.2.1 q), Q.2.2.2.2.2.1, Q.2.2.2.2.2.2.1, Q.2.2.2.2.2.2.2⟩)
theorem q_adL {d t a : Nat} {τ : List Nat} {h : zh} {s : sqT} {p : it4} {xp : Int32} (Q : QC τ h a s) (h14 : s.1.length < 14) (exp : xp.toInt = pk p) (ok : okPt p) : qV (d + 2) 67 [some (.inl (some (a + 3))), some (zi xp)] h t (fun h1 => QC τ h1 a (s.1 ++ [p], s.2) ∧ FQ a h h1) := qV_mono (e_addV Q.1 Q.2.1.2.2.2.1 Q.2.1.2.2.2.2.1 Q.2.2.1.2.2.2.2.2.1 Q.2.2.2.1.1 (by omega) h14 exp) (fun h1 ⟨g, r, F⟩ => QC_L Q g r F ⟨fun q hq => (List.mem_append.mp hq).elim (Q.2.2.2.2.1 q) (fun e => by rw [List.mem_singleton.mp e]; exact ok), Q.2.2.2.2.2.1, Q.2.2.2.2.2.2.1, Q.2.2.2.2.2.2.2⟩)
theorem q_mnL {d t a : Nat} {τ : List Nat} {h : zh} {s : sqT} (Q : QC τ h a s) : qI (d + 2) 73 [some (.inl (some (a + 3))), none, none] h t (fun y h1 => h = h1 ∧ bs_ y (fun v => mnt s.1 (v : Int))) := e_mnV Q.1 Q.2.1.2.2.2.1 Q.2.1.2.2.2.2.1 Q.2.2.1.2.2.2.2.2.1 Q.2.2.2.1.1 (okL_Pt Q.2.2.2.2.1)
theorem q_fsL {d t a : Nat} {τ : List Nat} {h : zh} {s : sqT} (Q : QC τ h a s) : qI (d + 2) 75 [some (.inl (some (a + 3))), none] h t (fun y h1 => h = h1 ∧ ((∃ (k : Nat) (q : it4), y.toInt = (k : Int) ∧ s.1[k]? = some q ∧ trv q ∧ ∀ (j : Nat) (p : it4), j < k → s.1[j]? = some p → ¬ trv p) ∨ (y.toInt = -1 ∧ ∀ q ∈ s.1, ¬ trv q))) := e_fsV Q.1 Q.2.1.2.2.2.1 Q.2.1.2.2.2.2.1 Q.2.2.1.2.2.2.2.2.1 Q.2.2.2.1.1 (okL_Pt Q.2.2.2.2.1)

theorem QC_R {τ : List Nat} {h h1 : zh} {a : Nat} {s : sqT} {l : List it4} (Q : QC τ h a s) (g : hG τ h1) (r : rwC h1 (a + 5) (a + 6) l) (F : ∀ k j, (k ≠ a + 6 ∧ (k ≠ a + 5 ∨ j ≠ 1)) → hsl h1 k j = hsl h k j) (ok : okQ (s.1, l, s.2.2)) : QC τ h1 a (s.1, l, s.2.2) ∧ FQ a h h1 := by
  obtain ⟨-, ty, ⟨l1, l2, l3, l4, l5, l6, l7, l8⟩, ⟨r1, r2, r3, r4⟩, -⟩ := Q
  exact ⟨⟨g, ty, ⟨rfs_up l1 (F _ _ (by omega)), rfs_up l2 (F _ _ (by omega)), rfs_up l3 (F _ _ (by omega)), rfs_up l4 (F _ _ (by omega)), rfs_up l5 (F _ _ (by omega)), rfs_up l6 (F _ _ (by omega)), rfs_up l7 (F _ _ (by omega)), rfs_up l8 (F _ _ (by omega))⟩, ⟨rwC_up r1 (F _ _ (by omega)) (fun j => F _ _ (by omega)), r, rwC_up r3 (F _ _ (by omega)) (fun j => F _ _ (by omega)), dC_up r4 (fun j => F _ _ (by omega))⟩, ok⟩, fun k j hC => F k j (by omega)⟩
theorem q_szR {τ : List Nat} {h : zh} {a : Nat} {s : sqT} (Q : QC τ h a s) : ∃ x : Int32, hsl h (a + 5) 1 = some (zi x) ∧ x.toInt = (s.2.1.length : Int) ∧ s.2.1.length ≤ 14 := by
  obtain ⟨x, e, f⟩ := (Q.2.2.2.1.2.1).1
  obtain ⟨x9, e9, l9, u9⟩ := g_int (i := 1) (lo := 0) (hi := 14) Q.1 Q.2.1.2.2.2.2.2.1 aw1004 (by decide) rfl
  have e8 := e.symm.trans e9
  cases e8
  exact ⟨x, e, f, by omega⟩
theorem q_tlR {d t k w a : Nat} {τ : List Nat} {h : zh} {s : sqT} {i : it4} {xk xw : Int32} (Q : QC τ h a s) (exk : xk.toInt = (k : Int)) (hk : s.2.1[k]? = some i) (exw : xw.toInt = (w : Int)) (hw : w < 4) : qI (d + 1) 64 [some (.inl (some (a + 5))), some (zi xk), some (zi xw)] h t (fun y h1 => h = h1 ∧ y.toInt = cmp_ i w) := e_tlV Q.1 Q.2.1.2.2.2.2.2.1 Q.2.1.2.2.2.2.2.2.1 Q.2.2.1.2.2.2.2.2.2.1 Q.2.2.2.1.2.1 exk hk ((okL_Pt Q.2.2.2.2.2.1) k i hk) exw hw
theorem q_itR {d t k a : Nat} {τ : List Nat} {h : zh} {s : sqT} {i : it4} {xk : Int32} (Q : QC τ h a s) (exk : xk.toInt = (k : Int)) (hk : s.2.1[k]? = some i) : qI (d + 1) 65 [some (.inl (some (a + 5))), some (zi xk)] h t (fun y h1 => h = h1 ∧ y.toInt = pk i) := e_itV Q.1 Q.2.1.2.2.2.2.2.1 Q.2.1.2.2.2.2.2.2.1 Q.2.2.1.2.2.2.2.2.2.1 Q.2.2.2.1.2.1 exk hk
theorem okQ_erR {s : sqT} {k : Nat} (o : okQ s) : okQ (s.1, s.2.1.eraseIdx k, s.2.2) := ⟨o.1, fun p hp => o.2.1 p (mem_er hp), o.2.2.1, o.2.2.2⟩
theorem q_rmR {d t k a : Nat} {τ : List Nat} {h : zh} {s : sqT} {xk : Int32} (Q : QC τ h a s) (exk : xk.toInt = (k : Int)) (hk : k < s.2.1.length) : qV (d + 1) 70 [some (.inl (some (a + 5))), some (zi xk), none] h t (fun h1 => QC τ h1 a (s.1, s.2.1.eraseIdx k, s.2.2) ∧ FQ a h h1) := qV_mono (e_rm14 Q.1 Q.2.1.2.2.2.2.2.1 Q.2.1.2.2.2.2.2.2.1 (by omega) Q.2.2.1.2.2.2.2.2.2.1 Q.2.2.2.1.2.1 exk hk) (fun h1 ⟨g, r, F⟩ => QC_R Q g r F (okQ_erR Q.2.2.2.2))
theorem q_stR {d t k a : Nat} {τ : List Nat} {h : zh} {s : sqT} {p : it4} {xk xp : Int32} (Q : QC τ h a s) (exk : xk.toInt = (k : Int)) (hk : k < s.2.1.length) (exp : xp.toInt = pk p) (ok : okPt p) : qV (d + 1) 69 [some (.inl (some (a + 5))), some (zi xk), some (zi xp)] h t (fun h1 => QC τ h1 a (s.1, s.2.1.set k p, s.2.2) ∧ FQ a h h1) := qV_mono (e_setV Q.1 Q.2.1.2.2.2.2.2.1 Q.2.1.2.2.2.2.2.2.1 Q.2.2.1.2.2.2.2.2.2.1 Q.2.2.2.1.2.1 (by omega) exk hk exp) (fun h1 ⟨g, r, F⟩ => QC_R Q g r (fun k j hC => F k j hC.1) ⟨Q.2.2.2.2.1, fun q hq => (mem_st hq).elim (fun e => by rw [e]; exact ok) (Q.2.2.2.2.2.1 q), Q.2.2.2.2.2.2.1, Q.2.2.2.2.2.2.2⟩)
theorem q_inR {d t k a : Nat} {τ : List Nat} {h : zh} {s : sqT} {p : it4} {xk xp : Int32} (Q : QC τ h a s) (exk : xk.toInt = (k : Int)) (hk : k ≤ s.2.1.length) (h14 : s.2.1.length < 14) (exp : xp.toInt = pk p) (ok : okPt p) : qV (d + 1) 68 [some (.inl (some (a + 5))), some (zi xk), some (zi xp), none] h t (fun h1 => QC τ h1 a (s.1, ins_ s.2.1 k p, s.2.2) ∧ FQ a h h1) := qV_mono (e_insV Q.1 Q.2.1.2.2.2.2.2.1 Q.2.1.2.2.2.2.2.2.1 Q.2.2.1.2.2.2.2.2.2.1 Q.2.2.2.1.2.1 (by omega) exk hk h14 exp) (fun h1 ⟨g, r, F⟩ => QC_R Q g r F ⟨Q.2.2.2.2.1, fun q hq => (mem_ins hq).elim (fun e => by rw [e]; exact ok) (Q.2.2.2.2.2.1 q), Q.2.2.2.2.2.2.1, Q.2.2.2.2.2.2.2⟩)
theorem q_adR {d t a : Nat} {τ : List Nat} {h : zh} {s : sqT} {p : it4} {xp : Int32} (Q : QC τ h a s) (h14 : s.2.1.length < 14) (exp : xp.toInt = pk p) (ok : okPt p) : qV (d + 2) 67 [some (.inl (some (a + 5))), some (zi xp)] h t (fun h1 => QC τ h1 a (s.1, s.2.1 ++ [p], s.2.2) ∧ FQ a h h1) := qV_mono (e_addV Q.1 Q.2.1.2.2.2.2.2.1 Q.2.1.2.2.2.2.2.2.1 Q.2.2.1.2.2.2.2.2.2.1 Q.2.2.2.1.2.1 (by omega) h14 exp) (fun h1 ⟨g, r, F⟩ => QC_R Q g r F ⟨Q.2.2.2.2.1, fun q hq => (List.mem_append.mp hq).elim (Q.2.2.2.2.2.1 q) (fun e => by rw [List.mem_singleton.mp e]; exact ok), Q.2.2.2.2.2.2.1, Q.2.2.2.2.2.2.2⟩)
theorem q_mnR {d t a : Nat} {τ : List Nat} {h : zh} {s : sqT} (Q : QC τ h a s) : qI (d + 2) 73 [some (.inl (some (a + 5))), none, none] h t (fun y h1 => h = h1 ∧ bs_ y (fun v => mnt s.2.1 (v : Int))) := e_mnV Q.1 Q.2.1.2.2.2.2.2.1 Q.2.1.2.2.2.2.2.2.1 Q.2.2.1.2.2.2.2.2.2.1 Q.2.2.2.1.2.1 (okL_Pt Q.2.2.2.2.2.1)
theorem q_fsR {d t a : Nat} {τ : List Nat} {h : zh} {s : sqT} (Q : QC τ h a s) : qI (d + 2) 75 [some (.inl (some (a + 5))), none] h t (fun y h1 => h = h1 ∧ ((∃ (k : Nat) (q : it4), y.toInt = (k : Int) ∧ s.2.1[k]? = some q ∧ trv q ∧ ∀ (j : Nat) (p : it4), j < k → s.2.1[j]? = some p → ¬ trv p) ∨ (y.toInt = -1 ∧ ∀ q ∈ s.2.1, ¬ trv q))) := e_fsV Q.1 Q.2.1.2.2.2.2.2.1 Q.2.1.2.2.2.2.2.2.1 Q.2.2.1.2.2.2.2.2.2.1 Q.2.2.2.1.2.1 (okL_Pt Q.2.2.2.2.2.1)

theorem QC_C {τ : List Nat} {h h1 : zh} {a : Nat} {s : sqT} {l : List it4} (Q : QC τ h a s) (g : hG τ h1) (r : rwC h1 (a + 7) (a + 8) l) (F : ∀ k j, (k ≠ a + 8 ∧ (k ≠ a + 7 ∨ j ≠ 1)) → hsl h1 k j = hsl h k j) (ok : okQ (s.1, s.2.1, l, s.2.2.2)) : QC τ h1 a (s.1, s.2.1, l, s.2.2.2) ∧ FQ a h h1 := by
  obtain ⟨-, ty, ⟨l1, l2, l3, l4, l5, l6, l7, l8⟩, ⟨r1, r2, r3, r4⟩, -⟩ := Q
  exact ⟨⟨g, ty, ⟨rfs_up l1 (F _ _ (by omega)), rfs_up l2 (F _ _ (by omega)), rfs_up l3 (F _ _ (by omega)), rfs_up l4 (F _ _ (by omega)), rfs_up l5 (F _ _ (by omega)), rfs_up l6 (F _ _ (by omega)), rfs_up l7 (F _ _ (by omega)), rfs_up l8 (F _ _ (by omega))⟩, ⟨rwC_up r1 (F _ _ (by omega)) (fun j => F _ _ (by omega)), rwC_up r2 (F _ _ (by omega)) (fun j => F _ _ (by omega)), r, dC_up r4 (fun j => F _ _ (by omega))⟩, ok⟩, fun k j hC => F k j (by omega)⟩
theorem q_szC {τ : List Nat} {h : zh} {a : Nat} {s : sqT} (Q : QC τ h a s) : ∃ x : Int32, hsl h (a + 7) 1 = some (zi x) ∧ x.toInt = (s.2.2.1.length : Int) ∧ s.2.2.1.length ≤ 14 := by
  obtain ⟨x, e, f⟩ := (Q.2.2.2.1.2.2.1).1
  obtain ⟨x9, e9, l9, u9⟩ := g_int (i := 1) (lo := 0) (hi := 14) Q.1 Q.2.1.2.2.2.2.2.2.2.1 aw1004 (by decide) rfl
  have e8 := e.symm.trans e9
  cases e8
  exact ⟨x, e, f, by omega⟩
theorem q_tlC {d t k w a : Nat} {τ : List Nat} {h : zh} {s : sqT} {i : it4} {xk xw : Int32} (Q : QC τ h a s) (exk : xk.toInt = (k : Int)) (hk : s.2.2.1[k]? = some i) (exw : xw.toInt = (w : Int)) (hw : w < 4) : qI (d + 1) 64 [some (.inl (some (a + 7))), some (zi xk), some (zi xw)] h t (fun y h1 => h = h1 ∧ y.toInt = cmp_ i w) := e_tlV Q.1 Q.2.1.2.2.2.2.2.2.2.1 Q.2.1.2.2.2.2.2.2.2.2 Q.2.2.1.2.2.2.2.2.2.2 Q.2.2.2.1.2.2.1 exk hk ((okL_Cl Q.2.2.2.2.2.2.1) k i hk) exw hw
theorem q_itC {d t k a : Nat} {τ : List Nat} {h : zh} {s : sqT} {i : it4} {xk : Int32} (Q : QC τ h a s) (exk : xk.toInt = (k : Int)) (hk : s.2.2.1[k]? = some i) : qI (d + 1) 65 [some (.inl (some (a + 7))), some (zi xk)] h t (fun y h1 => h = h1 ∧ y.toInt = pk i) := e_itV Q.1 Q.2.1.2.2.2.2.2.2.2.1 Q.2.1.2.2.2.2.2.2.2.2 Q.2.2.1.2.2.2.2.2.2.2 Q.2.2.2.1.2.2.1 exk hk
theorem okQ_erC {s : sqT} {k : Nat} (o : okQ s) : okQ (s.1, s.2.1, s.2.2.1.eraseIdx k, s.2.2.2) := ⟨o.1, o.2.1, fun p hp => o.2.2.1 p (mem_er hp), o.2.2.2⟩
theorem q_rmC {d t k a : Nat} {τ : List Nat} {h : zh} {s : sqT} {xk : Int32} (Q : QC τ h a s) (exk : xk.toInt = (k : Int)) (hk : k < s.2.2.1.length) : qV (d + 1) 70 [some (.inl (some (a + 7))), some (zi xk), none] h t (fun h1 => QC τ h1 a (s.1, s.2.1, s.2.2.1.eraseIdx k, s.2.2.2) ∧ FQ a h h1) := qV_mono (e_rm14 Q.1 Q.2.1.2.2.2.2.2.2.2.1 Q.2.1.2.2.2.2.2.2.2.2 (by omega) Q.2.2.1.2.2.2.2.2.2.2 Q.2.2.2.1.2.2.1 exk hk) (fun h1 ⟨g, r, F⟩ => QC_C Q g r F (okQ_erC Q.2.2.2.2))
theorem q_stC {d t k a : Nat} {τ : List Nat} {h : zh} {s : sqT} {p : it4} {xk xp : Int32} (Q : QC τ h a s) (exk : xk.toInt = (k : Int)) (hk : k < s.2.2.1.length) (exp : xp.toInt = pk p) (ok : okCl p) : qV (d + 1) 69 [some (.inl (some (a + 7))), some (zi xk), some (zi xp)] h t (fun h1 => QC τ h1 a (s.1, s.2.1, s.2.2.1.set k p, s.2.2.2) ∧ FQ a h h1) := qV_mono (e_setV Q.1 Q.2.1.2.2.2.2.2.2.2.1 Q.2.1.2.2.2.2.2.2.2.2 Q.2.2.1.2.2.2.2.2.2.2 Q.2.2.2.1.2.2.1 (by omega) exk hk exp) (fun h1 ⟨g, r, F⟩ => QC_C Q g r (fun k j hC => F k j hC.1) ⟨Q.2.2.2.2.1, Q.2.2.2.2.2.1, fun q hq => (mem_st hq).elim (fun e => by rw [e]; exact ok) (Q.2.2.2.2.2.2.1 q), Q.2.2.2.2.2.2.2⟩)
theorem q_inC {d t k a : Nat} {τ : List Nat} {h : zh} {s : sqT} {p : it4} {xk xp : Int32} (Q : QC τ h a s) (exk : xk.toInt = (k : Int)) (hk : k ≤ s.2.2.1.length) (h14 : s.2.2.1.length < 14) (exp : xp.toInt = pk p) (ok : okCl p) : qV (d + 1) 68 [some (.inl (some (a + 7))), some (zi xk), some (zi xp), none] h t (fun h1 => QC τ h1 a (s.1, s.2.1, ins_ s.2.2.1 k p, s.2.2.2) ∧ FQ a h h1) := qV_mono (e_insV Q.1 Q.2.1.2.2.2.2.2.2.2.1 Q.2.1.2.2.2.2.2.2.2.2 Q.2.2.1.2.2.2.2.2.2.2 Q.2.2.2.1.2.2.1 (by omega) exk hk h14 exp) (fun h1 ⟨g, r, F⟩ => QC_C Q g r F ⟨Q.2.2.2.2.1, Q.2.2.2.2.2.1, fun q hq => (mem_ins hq).elim (fun e => by rw [e]; exact ok) (Q.2.2.2.2.2.2.1 q), Q.2.2.2.2.2.2.2⟩)
theorem q_adC {d t a : Nat} {τ : List Nat} {h : zh} {s : sqT} {p : it4} {xp : Int32} (Q : QC τ h a s) (h14 : s.2.2.1.length < 14) (exp : xp.toInt = pk p) (ok : okCl p) : qV (d + 2) 67 [some (.inl (some (a + 7))), some (zi xp)] h t (fun h1 => QC τ h1 a (s.1, s.2.1, s.2.2.1 ++ [p], s.2.2.2) ∧ FQ a h h1) := qV_mono (e_addV Q.1 Q.2.1.2.2.2.2.2.2.2.1 Q.2.1.2.2.2.2.2.2.2.2 Q.2.2.1.2.2.2.2.2.2.2 Q.2.2.2.1.2.2.1 (by omega) h14 exp) (fun h1 ⟨g, r, F⟩ => QC_C Q g r F ⟨Q.2.2.2.2.1, Q.2.2.2.2.2.1, fun q hq => (List.mem_append.mp hq).elim (Q.2.2.2.2.2.2.1 q) (fun e => by rw [List.mem_singleton.mp e]; exact ok), Q.2.2.2.2.2.2.2⟩)
theorem q_mnC {d t a : Nat} {τ : List Nat} {h : zh} {s : sqT} (Q : QC τ h a s) : qI (d + 2) 73 [some (.inl (some (a + 7))), none, none] h t (fun y h1 => h = h1 ∧ bs_ y (fun v => mnt s.2.2.1 (v : Int))) := e_mnV Q.1 Q.2.1.2.2.2.2.2.2.2.1 Q.2.1.2.2.2.2.2.2.2.2 Q.2.2.1.2.2.2.2.2.2.2 Q.2.2.2.1.2.2.1 (okL_Cl Q.2.2.2.2.2.2.1)
theorem q_fsC {d t a : Nat} {τ : List Nat} {h : zh} {s : sqT} (Q : QC τ h a s) : qI (d + 2) 75 [some (.inl (some (a + 7))), none] h t (fun y h1 => h = h1 ∧ ((∃ (k : Nat) (q : it4), y.toInt = (k : Int) ∧ s.2.2.1[k]? = some q ∧ trv q ∧ ∀ (j : Nat) (p : it4), j < k → s.2.2.1[j]? = some p → ¬ trv p) ∨ (y.toInt = -1 ∧ ∀ q ∈ s.2.2.1, ¬ trv q))) := e_fsV Q.1 Q.2.1.2.2.2.2.2.2.2.1 Q.2.1.2.2.2.2.2.2.2.2 Q.2.2.1.2.2.2.2.2.2.2 Q.2.2.2.1.2.2.1 (okL_Cl Q.2.2.2.2.2.2.1)

theorem QC_D {τ : List Nat} {h h1 : zh} {a : Nat} {s : sqT} {D : dfT} (Q : QC τ h a s) (g : hG τ h1) (r : dC h1 (a + 2) 0 D) (F : ∀ k j, k ≠ a + 2 → hsl h1 k j = hsl h k j) (ok : okD D) : QC τ h1 a (s.1, s.2.1, s.2.2.1, D) ∧ FQ a h h1 := by
  obtain ⟨-, ty, ⟨l1, l2, l3, l4, l5, l6, l7, l8⟩, ⟨r1, r2, r3, r4⟩, o⟩ := Q
  exact ⟨⟨g, ty, ⟨rfs_up l1 (F _ _ (by omega)), rfs_up l2 (F _ _ (by omega)), rfs_up l3 (F _ _ (by omega)), rfs_up l4 (F _ _ (by omega)), rfs_up l5 (F _ _ (by omega)), rfs_up l6 (F _ _ (by omega)), rfs_up l7 (F _ _ (by omega)), rfs_up l8 (F _ _ (by omega))⟩, ⟨rwC_up r1 (F _ _ (by omega)) (fun j => F _ _ (by omega)), rwC_up r2 (F _ _ (by omega)) (fun j => F _ _ (by omega)), rwC_up r3 (F _ _ (by omega)) (fun j => F _ _ (by omega)), r⟩, o.1, o.2.1, o.2.2.1, ok⟩, fun k j hC => F k j (by omega)⟩
theorem q_ow {d t a : Nat} {τ : List Nat} {h : zh} {s : sqT} (Q : QC τ h a s) : qI (d + 2) 74 [some (.inl (some (a + 3))), none, none] h t (fun y h1 => h = h1 ∧ bs_ y (fun v => ∃ p ∈ s.1, p.1 ≤ 1 ∧ p.2.1 = (v : Int))) := e_owV Q.1 Q.2.1.2.2.2.1 Q.2.1.2.2.2.2.1 Q.2.2.1.2.2.2.2.2.1 Q.2.2.2.1.1 (okL_Pt Q.2.2.2.2.1)
theorem q_dhas {d t x y a : Nat} {τ : List Nat} {h : zh} {s : sqT} {xa xb : Int32} (Q : QC τ h a s) (exa : xa.toInt = (x : Int)) (ha : x ≤ 20) (exb : xb.toInt = (y : Int)) (hb : y ≤ 20) : qI (d + 2) 3 [some (.inl (some (a + 1))), some (zi xa), some (zi xb)] h t (fun z h1 => h = h1 ∧ ((z.toInt = 1 ∧ s.2.2.2 x y) ∨ (z.toInt = 0 ∧ ¬ s.2.2.2 x y))) := e_dhas Q.1 Q.2.1.2.1 Q.2.1.2.2.1 Q.2.2.1.2.2.2.2.1 Q.2.2.2.1.2.2.2 exa ha exb hb
theorem q_dadd {d t x y a : Nat} {τ : List Nat} {h : zh} {s : sqT} {xa xb : Int32} (Q : QC τ h a s) (exa : xa.toInt = (x : Int)) (ha : x ≤ 20) (exb : xb.toInt = (y : Int)) (hb : y ≤ 20) : qV (d + 2) 4 [some (.inl (some (a + 1))), some (zi xa), some (zi xb)] h t (fun h1 => QC τ h1 a (s.1, s.2.1, s.2.2.1, dAdd s.2.2.2 x y) ∧ FQ a h h1) := qV_mono (e_dadd Q.1 Q.2.1.2.1 Q.2.1.2.2.1 Q.2.2.1.2.2.2.2.1 Q.2.2.2.1.2.2.2 (by omega) exa ha exb hb) (fun h1 ⟨g, r, F⟩ => QC_D Q g r F (okD_add Q.2.2.2.2.2.2.2 (by omega) (by omega)))
theorem q_dself {d t a : Nat} {τ : List Nat} {h : zh} {s : sqT} (Q : QC τ h a s) : qI (d + 1) 6 [some (.inl (some (a + 1))), none] h t (fun y h1 => h = h1 ∧ ((y.toInt = 1 ∧ ∃ a, s.2.2.2 a a) ∨ (y.toInt = 0 ∧ ∀ a, ¬ s.2.2.2 a a))) := e_dself Q.1 Q.2.1.2.1 Q.2.1.2.2.1 Q.2.2.1.2.2.2.2.1 Q.2.2.2.1.2.2.2 Q.2.2.2.2.2.2.2
theorem q_dmn {d t a : Nat} {τ : List Nat} {h : zh} {s : sqT} (Q : QC τ h a s) : qI (d + 1) 8 [some (.inl (some (a + 1))), none, none] h t (fun y h1 => h = h1 ∧ bs_ y (fun v => ∃ a, s.2.2.2 a (v : Int))) := e_dmn Q.1 Q.2.1.2.1 Q.2.1.2.2.1 Q.2.2.1.2.2.2.2.1 Q.2.2.2.1.2.2.2 Q.2.2.2.2.2.2.2
theorem q_dkp {d t a : Nat} {τ : List Nat} {h : zh} {s : sqT} {xb : Int32} {B : Int → Prop} (Q : QC τ h a s) (hb : bs_ xb (fun v => B (v : Int))) : qI (d + 3) 9 [some (.inl (some (a + 1))), some (zi xb), none, none] h t (fun y h1 => (y.toInt = 0 ∨ (y.toInt = 1 ∧ ¬ ∀ a b, s.2.2.2 a b → dKp B s.2.2.2 a b)) ∧ QC τ h1 a (s.1, s.2.1, s.2.2.1, dKp B s.2.2.2) ∧ FQ a h h1) := qI_mono (e_dkp Q.1 Q.2.1.2.1 Q.2.1.2.2.1 Q.2.2.1.2.2.2.2.1 Q.2.2.2.1.2.2.2 (by omega) hb) (fun y h1 ⟨c, g, r, F⟩ => ⟨c, QC_D Q g r F (okD_kp Q.2.2.2.2.2.2.2)⟩)
