/-! a part's kind is one of four, a place it has not is 0; a claim's kind is one of two: in all that the text gives -/
def pyl (l : List it4) : Prop := ∀ i ∈ l, pyi i
def py1 (b : bsT) : Prop := pyl b.1.1 ∧ pyl b.2.1
def PY (cur : bsT) (hs : List bsT) : Prop := py1 cur ∧ ∀ b ∈ hs, py1 b
theorem tkc_py {s s1 : pst} {a p : Nat} {i : it4} (h : tkc s a i p = .inr s1) : s1.2.1 = s.2.1 := by
  unfold tkc at h
  split at h
  · cases h
  · cases h
    rfl
theorem tkp_py {s s1 : pst} {a p : Nat} {i : it4} (h : tkp s a i p = .inr s1) (hi : pyi i) (c : pyl s.2.1) : pyl s1.2.1 := by
  unfold tkp at h
  split at h
  · cases h
  · cases h
    intro j hj
    rcases List.mem_append.mp hj with q | q
    · exact c j q
    · rw [List.mem_singleton.mp q]
      exact hi
theorem wLst_py {b : Nat → Int} {n a p : Nat} {s s1 : pst} (h : wLst b n s a p = .inr s1) (c : pyl s.2.1) : pyl s1.2.1 := by
  unfold wLst at h
  split at h
  · cases h
  · split at h
    · cases h
    · split at h
      · cases h
      · split at h
        · cases h
        · split at h
          · cases h
          · exact tkp_py h ⟨(by decide : (0 : Int) ≤ 2 ∧ (2 : Int) ≤ 3), fun q => absurd q (by decide : ¬ (2 : Int) = 3), fun _ => rfl⟩ c
theorem wTre_py {b : Nat → Int} {n a p : Nat} {s s1 : pst} (h : wTre b n s a p = .inr s1) (c : pyl s.2.1) : pyl s1.2.1 := by
  unfold wTre at h
  split at h
  · cases h
  · split at h
    · cases h
    · split at h
      · cases h
      · exact tkp_py h ⟨(by decide : (0 : Int) ≤ 3 ∧ (3 : Int) ≤ 3), fun _ => rfl, fun _ => rfl⟩ c
theorem wCel_py {b : Nat → Int} {n a p : Nat} {x : Int} {s s1 : pst} (h : wCel b n s a p x = .inr s1) (c : pyl s.2.1) : pyl s1.2.1 := by
  unfold wCel at h
  split at h
  · cases h
  · split at h
    · exact tkp_py h ⟨(by decide : (0 : Int) ≤ 0 ∧ (0 : Int) ≤ 3), fun q => absurd q (by decide : ¬ (0 : Int) = 3), fun _ => rfl⟩ c
    · split at h
      · cases h
      · exact tkp_py h ⟨(by decide : (0 : Int) ≤ 1 ∧ (1 : Int) ≤ 3), fun q => absurd q (by decide : ¬ (1 : Int) = 3), fun q => absurd rfl q⟩ c
theorem wClm_py {b : Nat → Int} {n a p : Nat} {k x : Int} {s s1 : pst} (h : wClm b n s a p k x = .inr s1) : s1.2.1 = s.2.1 := by
  unfold wClm at h
  split at h
  · cases h
  · exact tkc_py h
theorem wItm_py {b : Nat → Int} {n : Nat} {s s1 : pst} (h : wItm b n s = .inr s1) (c : pyl s.2.1) : pyl s1.2.1 := by
  unfold wItm at h
  split at h
  · exact wLst_py h c
  · split at h
    · exact wTre_py h c
    · split at h
      · cases h
      · split at h
        · exact wCel_py h c
        · split at h
          · rw [wClm_py h]
            exact c
          · split at h
            · cases h
            · rw [wClm_py h]
              exact c
theorem wItms_py {b : Nat → Int} {n : Nat} : ∀ {f : Nat} {s s1 : pst}, wItms b n f s = .inr s1 → pyl s.2.1 → pyl s1.2.1
  | 0, s, s1, h, c => by
    cases h
    exact c
  | f + 1, s, s1, h, c => by
    unfold wItms at h
    split at h
    · cases h
    · rename_i s2 e
      have c2 := wItm_py e c
      split at h
      · exact wItms_py h c2
      · cases h
        exact c2
theorem wSid_py {b : Nat → Int} {n a : Nat} {s1 : pst} (h : wSid b n a = .inr s1) : pyl s1.2.1 := by
  unfold wSid at h
  split at h
  · cases h
    exact fun i hi => by cases hi
  · exact wItms_py h (fun i hi => by cases hi)
theorem wAll_py {b : Nat → Int} {n : Nat} {w : bsT} (h : wAll b n = .inr w) : py1 w := by
  unfold wAll at h
  split at h
  · cases h
  · rename_i a1 l e1
    split at h
    · cases h
    · split at h
      · cases h
      · rename_i a3 r e3
        split at h
        · cases h
          exact ⟨wSid_py e1, wSid_py e3⟩
        · cases h
theorem PY_psh {cur b : bsT} {hs : List bsT} (c : PY cur hs) (hb : py1 b) : PY b (psh hs cur) := ⟨hb, fun d hd => (psh_mem hd).elim (c.2 d) (fun e => by rw [e]; exact c.1)⟩
theorem PY_turn {cur : bsT} {hs : List bsT} (c : PY cur hs) : PY (cur.2, cur.1) (psh hs cur) := PY_psh c ⟨c.1.2, c.1.1⟩
theorem PY_text {b : Nat → Int} {n : Nat} {cur : bsT} {hs : List bsT} (c : PY cur hs) : PY (tcur (wAll b n) cur) (ths (wAll b n) cur hs) := by
  cases hw : wAll b n with
  | inl f => exact c
  | inr w => exact PY_psh c (wAll_py hw)
def kcl (l : List it4) : Prop := ∀ i ∈ l, i.1 ≤ 1
def kc1 (b : bsT) : Prop := kcl b.1.2 ∧ kcl b.2.2
def KC (cur : bsT) (hs : List bsT) : Prop := kc1 cur ∧ ∀ b ∈ hs, kc1 b
theorem tkc_kc {s s1 : pst} {a p : Nat} {i : it4} (h : tkc s a i p = .inr s1) (hi : i.1 ≤ 1) (c : kcl s.2.2) : kcl s1.2.2 := by
  unfold tkc at h
  split at h
  · cases h
  · cases h
    intro j hj
    rcases List.mem_append.mp hj with q | q
    · exact c j q
    · rw [List.mem_singleton.mp q]
      exact hi
theorem wClm_kc {b : Nat → Int} {n a p : Nat} {k x : Int} {s s1 : pst} (h : wClm b n s a p k x = .inr s1) (hk : k ≤ 1) (c : kcl s.2.2) : kcl s1.2.2 := by
  unfold wClm at h
  split at h
  · cases h
  · exact tkc_kc h hk c
theorem wItm_kc {b : Nat → Int} {n : Nat} {s s1 : pst} (h : wItm b n s = .inr s1) (c : kcl s.2.2) : kcl s1.2.2 := by
  unfold wItm at h
  split at h
  · rw [wLst_cz h]
    exact c
  · split at h
    · rw [wTre_cz h]
      exact c
    · split at h
      · cases h
      · split at h
        · rw [wCel_cz h]
          exact c
        · split at h
          · exact wClm_kc h (by decide) c
          · split at h
            · cases h
            · exact wClm_kc h (by decide) c
theorem wItms_kc {b : Nat → Int} {n : Nat} : ∀ {f : Nat} {s s1 : pst}, wItms b n f s = .inr s1 → kcl s.2.2 → kcl s1.2.2
  | 0, s, s1, h, c => by
    cases h
    exact c
  | f + 1, s, s1, h, c => by
    unfold wItms at h
    split at h
    · cases h
    · rename_i s2 e
      have c2 := wItm_kc e c
      split at h
      · exact wItms_kc h c2
      · cases h
        exact c2
theorem wSid_kc {b : Nat → Int} {n a : Nat} {s1 : pst} (h : wSid b n a = .inr s1) : kcl s1.2.2 := by
  unfold wSid at h
  split at h
  · cases h
    exact fun i hi => by cases hi
  · exact wItms_kc h (fun i hi => by cases hi)
theorem wAll_kc {b : Nat → Int} {n : Nat} {w : bsT} (h : wAll b n = .inr w) : kc1 w := by
  unfold wAll at h
  split at h
  · cases h
  · rename_i a1 l e1
    split at h
    · cases h
    · split at h
      · cases h
      · rename_i a3 r e3
        split at h
        · cases h
          exact ⟨wSid_kc e1, wSid_kc e3⟩
        · cases h
theorem KC_psh {cur b : bsT} {hs : List bsT} (c : KC cur hs) (hb : kc1 b) : KC b (psh hs cur) := ⟨hb, fun d hd => (psh_mem hd).elim (c.2 d) (fun e => by rw [e]; exact c.1)⟩
theorem KC_turn {cur : bsT} {hs : List bsT} (c : KC cur hs) : KC (cur.2, cur.1) (psh hs cur) := KC_psh c ⟨c.1.2, c.1.1⟩
theorem KC_text {b : Nat → Int} {n : Nat} {cur : bsT} {hs : List bsT} (c : KC cur hs) : KC (tcur (wAll b n) cur) (ths (wAll b n) cur hs) := by
  cases hw : wAll b n with
  | inl f => exact c
  | inr w => exact KC_psh c (wAll_kc hw)
theorem PY_undo {cur : bsT} {hs : List bsT} (c : PY cur hs) : PY (udc cur hs) hs.dropLast := by
  refine ⟨?_, fun b hb => c.2 b (List.dropLast_subset hs hb)⟩
  unfold udc
  cases h : hs.getLast? with
  | none => exact c.1
  | some b => exact c.2 b (List.mem_of_getLast? h)
theorem PY_drop {cur : bsT} {hs : List bsT} {x k : Int} (c : PY cur hs) : PY (opC (drop_ cur x k) cur) (opH (drop_ cur x k) cur hs) := by
  unfold drop_
  split
  · exact PY_psh c ⟨fun i hi => c.1.1 i (List.mem_of_mem_eraseIdx hi), c.1.2⟩
  · split
    · exact PY_psh c ⟨c.1.1, fun i hi => c.1.2 i (List.mem_of_mem_eraseIdx hi)⟩
    · exact c
theorem PY_forget {cur : bsT} {hs : List bsT} {x k : Int} (c : PY cur hs) : PY (opC (forget_ cur x k) cur) (opH (forget_ cur x k) cur hs) := by
  unfold forget_
  split
  · exact PY_psh c ⟨c.1.1, c.1.2⟩
  · split
    · exact PY_psh c ⟨c.1.1, c.1.2⟩
    · exact c
theorem KC_undo {cur : bsT} {hs : List bsT} (c : KC cur hs) : KC (udc cur hs) hs.dropLast := by
  refine ⟨?_, fun b hb => c.2 b (List.dropLast_subset hs hb)⟩
  unfold udc
  cases h : hs.getLast? with
  | none => exact c.1
  | some b => exact c.2 b (List.mem_of_getLast? h)
theorem KC_drop {cur : bsT} {hs : List bsT} {x k : Int} (c : KC cur hs) : KC (opC (drop_ cur x k) cur) (opH (drop_ cur x k) cur hs) := by
  unfold drop_
  split
  · exact KC_psh c c.1
  · split
    · exact KC_psh c c.1
    · exact c
theorem KC_forget {cur : bsT} {hs : List bsT} {x k : Int} (c : KC cur hs) : KC (opC (forget_ cur x k) cur) (opH (forget_ cur x k) cur hs) := by
  unfold forget_
  split
  · exact KC_psh c ⟨fun i hi => c.1.1 i (List.mem_of_mem_eraseIdx hi), c.1.2⟩
  · split
    · exact KC_psh c ⟨c.1.1, fun i hi => c.1.2 i (List.mem_of_mem_eraseIdx hi)⟩
    · exact c
/-- the sides are as the provers want them -/
theorem okB_of {τ : List Nat} {h : zh} {cur : bsT} {hs : List bsT} (hg : hG τ h) (rm : RM h cur hs) (p : py1 cur) (k : kc1 cur) (c : cz1 cur) : okB cur := by
  have o := RM_ok hg rm
  have l := len55 hg rm.1
  have at_ : ∀ {l : List it4} {i : it4}, i ∈ l → ∃ j : Nat, l[j]? = some i := fun hi => List.getElem?_of_mem hi
  refine ⟨⟨fun i hi => ?_, l.1⟩, ⟨fun i hi => ?_, l.2.2.1⟩, ⟨fun i hi => ?_, l.2.1⟩, ⟨fun i hi => ?_, l.2.2.2⟩⟩
  · obtain ⟨j, e⟩ := at_ hi
    exact okPt_I (o.1 j i e) (p.1 i hi)
  · obtain ⟨j, e⟩ := at_ hi
    exact okPt_I (o.2.2.1 j i e) (p.2 i hi)
  · obtain ⟨j, e⟩ := at_ hi
    exact okCl_I (o.2.1 j i e) ⟨k.1 i hi, c.1 i hi⟩
  · obtain ⟨j, e⟩ := at_ hi
    exact okCl_I (o.2.2.2 j i e) ⟨k.2 i hi, c.2 i hi⟩
