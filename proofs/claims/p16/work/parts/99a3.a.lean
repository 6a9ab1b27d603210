/-! a part's kind is one of four, a tree tells one variable: in all that the text gives -/
def pzi (i : it4) : Prop := (0 ≤ i.1 ∧ i.1 ≤ 3) ∧ (i.1 = 3 → i.2.2.1 = 0 ∧ i.2.2.2 = 0) ∧ (i.1 = 0 → i.2.2.2 = 0)
def pzl (l : List it4) : Prop := ∀ i ∈ l, pzi i
def pz1 (b : bsT) : Prop := pzl b.1.1 ∧ pzl b.2.1
def PZ (cur : bsT) (hs : List bsT) : Prop := pz1 cur ∧ ∀ b ∈ hs, pz1 b
theorem tkc_pz {s s1 : pst} {a p : Nat} {i : it4} (h : tkc s a i p = .inr s1) : s1.2.1 = s.2.1 := by
  unfold tkc at h
  split at h
  · cases h
  · cases h
    rfl
theorem tkp_pz {s s1 : pst} {a p : Nat} {i : it4} (h : tkp s a i p = .inr s1) (hi : pzi i) (c : pzl s.2.1) : pzl s1.2.1 := by
  unfold tkp at h
  split at h
  · cases h
  · cases h
    intro j hj
    rcases List.mem_append.mp hj with q | q
    · exact c j q
    · rw [List.mem_singleton.mp q]
      exact hi
theorem wLst_pz {b : Nat → Int} {n a p : Nat} {s s1 : pst} (h : wLst b n s a p = .inr s1) (c : pzl s.2.1) : pzl s1.2.1 := by
  unfold wLst at h
  split at h
  · cases h
  · split at h
    · cases h
    · split at h
      · cases h
      · split at h
        · cases h
        · split at h
          · cases h
          · exact tkp_pz h ⟨(by decide : (0 : Int) ≤ 2 ∧ (2 : Int) ≤ 3), fun q => absurd q (by decide : ¬ (2 : Int) = 3), fun q => absurd q (by decide : ¬ (2 : Int) = 0)⟩ c
theorem wTre_pz {b : Nat → Int} {n a p : Nat} {s s1 : pst} (h : wTre b n s a p = .inr s1) (c : pzl s.2.1) : pzl s1.2.1 := by
  unfold wTre at h
  split at h
  · cases h
  · split at h
    · cases h
    · split at h
      · cases h
      · exact tkp_pz h ⟨(by decide : (0 : Int) ≤ 3 ∧ (3 : Int) ≤ 3), fun _ => ⟨rfl, rfl⟩, fun q => absurd q (by decide : ¬ (3 : Int) = 0)⟩ c
theorem wCel_pz {b : Nat → Int} {n a p : Nat} {x : Int} {s s1 : pst} (h : wCel b n s a p x = .inr s1) (c : pzl s.2.1) : pzl s1.2.1 := by
  unfold wCel at h
  split at h
  · cases h
  · split at h
    · exact tkp_pz h ⟨(by decide : (0 : Int) ≤ 0 ∧ (0 : Int) ≤ 3), fun q => absurd q (by decide : ¬ (0 : Int) = 3), fun _ => rfl⟩ c
    · split at h
      · cases h
      · exact tkp_pz h ⟨(by decide : (0 : Int) ≤ 1 ∧ (1 : Int) ≤ 3), fun q => absurd q (by decide : ¬ (1 : Int) = 3), fun q => absurd q (by decide : ¬ (1 : Int) = 0)⟩ c
theorem wClm_pz {b : Nat → Int} {n a p : Nat} {k x : Int} {s s1 : pst} (h : wClm b n s a p k x = .inr s1) : s1.2.1 = s.2.1 := by
  unfold wClm at h
  split at h
  · cases h
  · exact tkc_pz h
theorem wItm_pz {b : Nat → Int} {n : Nat} {s s1 : pst} (h : wItm b n s = .inr s1) (c : pzl s.2.1) : pzl s1.2.1 := by
  unfold wItm at h
  split at h
  · exact wLst_pz h c
  · split at h
    · exact wTre_pz h c
    · split at h
      · cases h
      · split at h
        · exact wCel_pz h c
        · split at h
          · rw [wClm_pz h]
            exact c
          · split at h
            · cases h
            · rw [wClm_pz h]
              exact c
theorem wItms_pz {b : Nat → Int} {n : Nat} : ∀ {f : Nat} {s s1 : pst}, wItms b n f s = .inr s1 → pzl s.2.1 → pzl s1.2.1
  | 0, s, s1, h, c => by
    cases h
    exact c
  | f + 1, s, s1, h, c => by
    unfold wItms at h
    split at h
    · cases h
    · rename_i s2 e
      have c2 := wItm_pz e c
      split at h
      · exact wItms_pz h c2
      · cases h
        exact c2
theorem wSid_pz {b : Nat → Int} {n a : Nat} {s1 : pst} (h : wSid b n a = .inr s1) : pzl s1.2.1 := by
  unfold wSid at h
  split at h
  · cases h
    exact fun i hi => by cases hi
  · exact wItms_pz h (fun i hi => by cases hi)
theorem wAll_pz {b : Nat → Int} {n : Nat} {w : bsT} (h : wAll b n = .inr w) : pz1 w := by
  unfold wAll at h
  split at h
  · cases h
  · rename_i a1 l e1
    split at h
    · cases h
    · split at h
      · cases h
      · rename_i a3 r e3
        split at h
        · cases h
          exact ⟨wSid_pz e1, wSid_pz e3⟩
        · cases h
theorem PZ_psh {cur b : bsT} {hs : List bsT} (c : PZ cur hs) (hb : pz1 b) : PZ b (psh hs cur) := ⟨hb, fun d hd => (psh_mem hd).elim (c.2 d) (fun e => by rw [e]; exact c.1)⟩
theorem PZ_turn {cur : bsT} {hs : List bsT} (c : PZ cur hs) : PZ (cur.2, cur.1) (psh hs cur) := PZ_psh c ⟨c.1.2, c.1.1⟩
theorem PZ_text {b : Nat → Int} {n : Nat} {cur : bsT} {hs : List bsT} (c : PZ cur hs) : PZ (tcur (wAll b n) cur) (ths (wAll b n) cur hs) := by
  cases hw : wAll b n with
  | inl f => exact c
  | inr w => exact PZ_psh c (wAll_pz hw)
