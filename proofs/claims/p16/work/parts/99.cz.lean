/-! a claim tells two variables: its last place is 0, in all that the text gives -/
def czl (l : List it4) : Prop := ∀ i ∈ l, i.2.2.2 = 0
def cz1 (b : bsT) : Prop := czl b.1.2 ∧ czl b.2.2
def CZ (cur : bsT) (hs : List bsT) : Prop := cz1 cur ∧ ∀ b ∈ hs, cz1 b
theorem tkp_cz {s s1 : pst} {a p : Nat} {i : it4} (h : tkp s a i p = .inr s1) : s1.2.2 = s.2.2 := by
  unfold tkp at h
  split at h
  · cases h
  · cases h
    rfl
theorem tkc_cz {s s1 : pst} {a p : Nat} {i : it4} (h : tkc s a i p = .inr s1) (hi : i.2.2.2 = 0) (c : czl s.2.2) : czl s1.2.2 := by
  unfold tkc at h
  split at h
  · cases h
  · cases h
    intro j hj
    rcases List.mem_append.mp hj with q | q
    · exact c j q
    · rw [List.mem_singleton.mp q]
      exact hi
theorem wLst_cz {b : Nat → Int} {n a p : Nat} {s s1 : pst} (h : wLst b n s a p = .inr s1) : s1.2.2 = s.2.2 := by
  unfold wLst at h
  split at h
  · cases h
  · split at h
    · cases h
    · split at h
      · cases h
      · split at h
        · cases h
        · split at h
          · cases h
          · exact tkp_cz h
theorem wTre_cz {b : Nat → Int} {n a p : Nat} {s s1 : pst} (h : wTre b n s a p = .inr s1) : s1.2.2 = s.2.2 := by
  unfold wTre at h
  split at h
  · cases h
  · split at h
    · cases h
    · split at h
      · cases h
      · exact tkp_cz h
theorem wCel_cz {b : Nat → Int} {n a p : Nat} {x : Int} {s s1 : pst} (h : wCel b n s a p x = .inr s1) : s1.2.2 = s.2.2 := by
  unfold wCel at h
  split at h
  · cases h
  · split at h
    · exact tkp_cz h
    · split at h
      · cases h
      · exact tkp_cz h
theorem wClm_cz {b : Nat → Int} {n a p : Nat} {k x : Int} {s s1 : pst} (h : wClm b n s a p k x = .inr s1) (c : czl s.2.2) : czl s1.2.2 := by
  unfold wClm at h
  split at h
  · cases h
  · exact tkc_cz h rfl c
theorem wItm_cz {b : Nat → Int} {n : Nat} {s s1 : pst} (h : wItm b n s = .inr s1) (c : czl s.2.2) : czl s1.2.2 := by
  unfold wItm at h
  split at h
  · rw [wLst_cz h]
    exact c
  · split at h
    · rw [wTre_cz h]
      exact c
    · split at h
      · cases h
      · split at h
        · rw [wCel_cz h]
          exact c
        · split at h
          · exact wClm_cz h c
          · split at h
            · cases h
            · exact wClm_cz h c
theorem wItms_cz {b : Nat → Int} {n : Nat} : ∀ {f : Nat} {s s1 : pst}, wItms b n f s = .inr s1 → czl s.2.2 → czl s1.2.2
  | 0, s, s1, h, c => by
    cases h
    exact c
  | f + 1, s, s1, h, c => by
    unfold wItms at h
    split at h
    · cases h
    · rename_i s2 e
      have c2 := wItm_cz e c
      split at h
      · exact wItms_cz h c2
      · cases h
        exact c2
theorem wSid_cz {b : Nat → Int} {n a : Nat} {s1 : pst} (h : wSid b n a = .inr s1) : czl s1.2.2 := by
  unfold wSid at h
  split at h
  · cases h
    exact fun i hi => by cases hi
  · exact wItms_cz h (fun i hi => by cases hi)
theorem wAll_cz {b : Nat → Int} {n : Nat} {w : bsT} (h : wAll b n = .inr w) : cz1 w := by
  unfold wAll at h
  split at h
  · cases h
  · rename_i a1 l e1
    split at h
    · cases h
    · split at h
      · cases h
      · rename_i a3 r e3
        split at h
        · cases h
          exact ⟨wSid_cz e1, wSid_cz e3⟩
        · cases h
theorem psh_mem {hs : List bsT} {b c : bsT} (h : c ∈ psh hs b) : c ∈ hs ∨ c = b := by
  unfold psh at h
  split at h
  · rcases List.mem_append.mp h with q | q
    · exact Or.inl (List.mem_of_mem_tail q)
    · exact Or.inr (List.mem_singleton.mp q)
  · rcases List.mem_append.mp h with q | q
    · exact Or.inl q
    · exact Or.inr (List.mem_singleton.mp q)
theorem CZ_psh {cur b : bsT} {hs : List bsT} (c : CZ cur hs) (hb : cz1 b) : CZ b (psh hs cur) := ⟨hb, fun d hd => (psh_mem hd).elim (c.2 d) (fun e => by rw [e]; exact c.1)⟩
theorem CZ_turn {cur : bsT} {hs : List bsT} (c : CZ cur hs) : CZ (cur.2, cur.1) (psh hs cur) := CZ_psh c ⟨c.1.2, c.1.1⟩
theorem CZ_text {b : Nat → Int} {n : Nat} {cur : bsT} {hs : List bsT} (c : CZ cur hs) : CZ (tcur (wAll b n) cur) (ths (wAll b n) cur hs) := by
  cases hw : wAll b n with
  | inl f => exact c
  | inr w => exact CZ_psh c (wAll_cz hw)
