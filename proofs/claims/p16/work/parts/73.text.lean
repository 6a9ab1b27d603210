/-! the texts' signs -/
theorem ofI2 {y w : Int32} {c : Int} (h1 : y.toInt = c) (h2 : w.toInt = c) : y = w := Int32.toInt_inj.mp (by omega)
theorem tln0 {h : zh} {t : Nat} : qI 6 268 [some (.inl (some 2000000))] h t (fun y h1 => h = h1 ∧ y.toInt = 3) := ⟨3, h, qE_ev (nn := 60) rfl, rfl, by decide⟩
theorem tch0_0 {h : zh} {t : Nat} {x : Int32} (hx : x.toInt = 0) : qI 6 269 [some (.inl (some 2000000)), some (zi x)] h t (fun y h1 => h = h1 ∧ y.toInt = 101) := by
  have e := ofI2 (w := 0) hx (by decide)
  subst e
  exact ⟨101, h, qE_ev (nn := 60) rfl, rfl, by decide⟩
theorem tch0_1 {h : zh} {t : Nat} {x : Int32} (hx : x.toInt = 1) : qI 6 269 [some (.inl (some 2000000)), some (zi x)] h t (fun y h1 => h = h1 ∧ y.toInt = 109) := by
  have e := ofI2 (w := 1) hx (by decide)
  subst e
  exact ⟨109, h, qE_ev (nn := 60) rfl, rfl, by decide⟩
theorem tch0_2 {h : zh} {t : Nat} {x : Int32} (hx : x.toInt = 2) : qI 6 269 [some (.inl (some 2000000)), some (zi x)] h t (fun y h1 => h = h1 ∧ y.toInt = 112) := by
  have e := ofI2 (w := 2) hx (by decide)
  subst e
  exact ⟨112, h, qE_ev (nn := 60) rfl, rfl, by decide⟩
theorem tln1 {h : zh} {t : Nat} : qI 6 268 [some (.inl (some 2000001))] h t (fun y h1 => h = h1 ∧ y.toInt = 2) := ⟨2, h, qE_ev (nn := 60) rfl, rfl, by decide⟩
theorem tch1_0 {h : zh} {t : Nat} {x : Int32} (hx : x.toInt = 0) : qI 6 269 [some (.inl (some 2000001)), some (zi x)] h t (fun y h1 => h = h1 ∧ y.toInt = 108) := by
  have e := ofI2 (w := 0) hx (by decide)
  subst e
  exact ⟨108, h, qE_ev (nn := 60) rfl, rfl, by decide⟩
theorem tch1_1 {h : zh} {t : Nat} {x : Int32} (hx : x.toInt = 1) : qI 6 269 [some (.inl (some 2000001)), some (zi x)] h t (fun y h1 => h = h1 ∧ y.toInt = 115) := by
  have e := ofI2 (w := 1) hx (by decide)
  subst e
  exact ⟨115, h, qE_ev (nn := 60) rfl, rfl, by decide⟩
theorem tln2 {h : zh} {t : Nat} : qI 6 268 [some (.inl (some 2000002))] h t (fun y h1 => h = h1 ∧ y.toInt = 1) := ⟨1, h, qE_ev (nn := 60) rfl, rfl, by decide⟩
theorem tch2_0 {h : zh} {t : Nat} {x : Int32} (hx : x.toInt = 0) : qI 6 269 [some (.inl (some 2000002)), some (zi x)] h t (fun y h1 => h = h1 ∧ y.toInt = 40) := by
  have e := ofI2 (w := 0) hx (by decide)
  subst e
  exact ⟨40, h, qE_ev (nn := 60) rfl, rfl, by decide⟩
theorem tln3 {h : zh} {t : Nat} : qI 6 268 [some (.inl (some 2000003))] h t (fun y h1 => h = h1 ∧ y.toInt = 1) := ⟨1, h, qE_ev (nn := 60) rfl, rfl, by decide⟩
theorem tch3_0 {h : zh} {t : Nat} {x : Int32} (hx : x.toInt = 0) : qI 6 269 [some (.inl (some 2000003)), some (zi x)] h t (fun y h1 => h = h1 ∧ y.toInt = 44) := by
  have e := ofI2 (w := 0) hx (by decide)
  subst e
  exact ⟨44, h, qE_ev (nn := 60) rfl, rfl, by decide⟩
theorem tln4 {h : zh} {t : Nat} : qI 6 268 [some (.inl (some 2000004))] h t (fun y h1 => h = h1 ∧ y.toInt = 1) := ⟨1, h, qE_ev (nn := 60) rfl, rfl, by decide⟩
theorem tch4_0 {h : zh} {t : Nat} {x : Int32} (hx : x.toInt = 0) : qI 6 269 [some (.inl (some 2000004)), some (zi x)] h t (fun y h1 => h = h1 ∧ y.toInt = 41) := by
  have e := ofI2 (w := 0) hx (by decide)
  subst e
  exact ⟨41, h, qE_ev (nn := 60) rfl, rfl, by decide⟩
theorem tln5 {h : zh} {t : Nat} : qI 6 268 [some (.inl (some 2000005))] h t (fun y h1 => h = h1 ∧ y.toInt = 4) := ⟨4, h, qE_ev (nn := 60) rfl, rfl, by decide⟩
theorem tch5_0 {h : zh} {t : Nat} {x : Int32} (hx : x.toInt = 0) : qI 6 269 [some (.inl (some 2000005)), some (zi x)] h t (fun y h1 => h = h1 ∧ y.toInt = 116) := by
  have e := ofI2 (w := 0) hx (by decide)
  subst e
  exact ⟨116, h, qE_ev (nn := 60) rfl, rfl, by decide⟩
theorem tch5_1 {h : zh} {t : Nat} {x : Int32} (hx : x.toInt = 1) : qI 6 269 [some (.inl (some 2000005)), some (zi x)] h t (fun y h1 => h = h1 ∧ y.toInt = 114) := by
  have e := ofI2 (w := 1) hx (by decide)
  subst e
  exact ⟨114, h, qE_ev (nn := 60) rfl, rfl, by decide⟩
theorem tch5_2 {h : zh} {t : Nat} {x : Int32} (hx : x.toInt = 2) : qI 6 269 [some (.inl (some 2000005)), some (zi x)] h t (fun y h1 => h = h1 ∧ y.toInt = 101) := by
  have e := ofI2 (w := 2) hx (by decide)
  subst e
  exact ⟨101, h, qE_ev (nn := 60) rfl, rfl, by decide⟩
theorem tch5_3 {h : zh} {t : Nat} {x : Int32} (hx : x.toInt = 3) : qI 6 269 [some (.inl (some 2000005)), some (zi x)] h t (fun y h1 => h = h1 ∧ y.toInt = 101) := by
  have e := ofI2 (w := 3) hx (by decide)
  subst e
  exact ⟨101, h, qE_ev (nn := 60) rfl, rfl, by decide⟩
theorem tln6 {h : zh} {t : Nat} : qI 6 268 [some (.inl (some 2000006))] h t (fun y h1 => h = h1 ∧ y.toInt = 2) := ⟨2, h, qE_ev (nn := 60) rfl, rfl, by decide⟩
theorem tch6_0 {h : zh} {t : Nat} {x : Int32} (hx : x.toInt = 0) : qI 6 269 [some (.inl (some 2000006)), some (zi x)] h t (fun y h1 => h = h1 ∧ y.toInt = 45) := by
  have e := ofI2 (w := 0) hx (by decide)
  subst e
  exact ⟨45, h, qE_ev (nn := 60) rfl, rfl, by decide⟩
theorem tch6_1 {h : zh} {t : Nat} {x : Int32} (hx : x.toInt = 1) : qI 6 269 [some (.inl (some 2000006)), some (zi x)] h t (fun y h1 => h = h1 ∧ y.toInt = 62) := by
  have e := ofI2 (w := 1) hx (by decide)
  subst e
  exact ⟨62, h, qE_ev (nn := 60) rfl, rfl, by decide⟩
theorem tln7 {h : zh} {t : Nat} : qI 6 268 [some (.inl (some 2000007))] h t (fun y h1 => h = h1 ∧ y.toInt = 1) := ⟨1, h, qE_ev (nn := 60) rfl, rfl, by decide⟩
theorem tch7_0 {h : zh} {t : Nat} {x : Int32} (hx : x.toInt = 0) : qI 6 269 [some (.inl (some 2000007)), some (zi x)] h t (fun y h1 => h = h1 ∧ y.toInt = 61) := by
  have e := ofI2 (w := 0) hx (by decide)
  subst e
  exact ⟨61, h, qE_ev (nn := 60) rfl, rfl, by decide⟩
theorem tln8 {h : zh} {t : Nat} : qI 6 268 [some (.inl (some 2000008))] h t (fun y h1 => h = h1 ∧ y.toInt = 2) := ⟨2, h, qE_ev (nn := 60) rfl, rfl, by decide⟩
theorem tch8_0 {h : zh} {t : Nat} {x : Int32} (hx : x.toInt = 0) : qI 6 269 [some (.inl (some 2000008)), some (zi x)] h t (fun y h1 => h = h1 ∧ y.toInt = 33) := by
  have e := ofI2 (w := 0) hx (by decide)
  subst e
  exact ⟨33, h, qE_ev (nn := 60) rfl, rfl, by decide⟩
theorem tch8_1 {h : zh} {t : Nat} {x : Int32} (hx : x.toInt = 1) : qI 6 269 [some (.inl (some 2000008)), some (zi x)] h t (fun y h1 => h = h1 ∧ y.toInt = 61) := by
  have e := ofI2 (w := 1) hx (by decide)
  subst e
  exact ⟨61, h, qE_ev (nn := 60) rfl, rfl, by decide⟩
theorem tln9 {h : zh} {t : Nat} : qI 6 268 [some (.inl (some 2000009))] h t (fun y h1 => h = h1 ∧ y.toInt = 1) := ⟨1, h, qE_ev (nn := 60) rfl, rfl, by decide⟩
theorem tch9_0 {h : zh} {t : Nat} {x : Int32} (hx : x.toInt = 0) : qI 6 269 [some (.inl (some 2000009)), some (zi x)] h t (fun y h1 => h = h1 ∧ y.toInt = 42) := by
  have e := ofI2 (w := 0) hx (by decide)
  subst e
  exact ⟨42, h, qE_ev (nn := 60) rfl, rfl, by decide⟩
theorem tln10 {h : zh} {t : Nat} : qI 6 268 [some (.inl (some 2000010))] h t (fun y h1 => h = h1 ∧ y.toInt = 2) := ⟨2, h, qE_ev (nn := 60) rfl, rfl, by decide⟩
theorem tch10_0 {h : zh} {t : Nat} {x : Int32} (hx : x.toInt = 0) : qI 6 269 [some (.inl (some 2000010)), some (zi x)] h t (fun y h1 => h = h1 ∧ y.toInt = 124) := by
  have e := ofI2 (w := 0) hx (by decide)
  subst e
  exact ⟨124, h, qE_ev (nn := 60) rfl, rfl, by decide⟩
theorem tch10_1 {h : zh} {t : Nat} {x : Int32} (hx : x.toInt = 1) : qI 6 269 [some (.inl (some 2000010)), some (zi x)] h t (fun y h1 => h = h1 ∧ y.toInt = 45) := by
  have e := ofI2 (w := 1) hx (by decide)
  subst e
  exact ⟨45, h, qE_ev (nn := 60) rfl, rfl, by decide⟩
theorem tln11 {h : zh} {t : Nat} : qI 6 268 [some (.inl (some 2000011))] h t (fun y h1 => h = h1 ∧ y.toInt = 3) := ⟨3, h, qE_ev (nn := 60) rfl, rfl, by decide⟩
theorem tch11_0 {h : zh} {t : Nat} {x : Int32} (hx : x.toInt = 0) : qI 6 269 [some (.inl (some 2000011)), some (zi x)] h t (fun y h1 => h = h1 ∧ y.toInt = 101) := by
  have e := ofI2 (w := 0) hx (by decide)
  subst e
  exact ⟨101, h, qE_ev (nn := 60) rfl, rfl, by decide⟩
theorem tch11_1 {h : zh} {t : Nat} {x : Int32} (hx : x.toInt = 1) : qI 6 269 [some (.inl (some 2000011)), some (zi x)] h t (fun y h1 => h = h1 ∧ y.toInt = 109) := by
  have e := ofI2 (w := 1) hx (by decide)
  subst e
  exact ⟨109, h, qE_ev (nn := 60) rfl, rfl, by decide⟩
theorem tch11_2 {h : zh} {t : Nat} {x : Int32} (hx : x.toInt = 2) : qI 6 269 [some (.inl (some 2000011)), some (zi x)] h t (fun y h1 => h = h1 ∧ y.toInt = 112) := by
  have e := ofI2 (w := 2) hx (by decide)
  subst e
  exact ⟨112, h, qE_ev (nn := 60) rfl, rfl, by decide⟩
theorem tln12 {h : zh} {t : Nat} : qI 6 268 [some (.inl (some 2000012))] h t (fun y h1 => h = h1 ∧ y.toInt = 2) := ⟨2, h, qE_ev (nn := 60) rfl, rfl, by decide⟩
theorem tch12_0 {h : zh} {t : Nat} {x : Int32} (hx : x.toInt = 0) : qI 6 269 [some (.inl (some 2000012)), some (zi x)] h t (fun y h1 => h = h1 ∧ y.toInt = 108) := by
  have e := ofI2 (w := 0) hx (by decide)
  subst e
  exact ⟨108, h, qE_ev (nn := 60) rfl, rfl, by decide⟩
theorem tch12_1 {h : zh} {t : Nat} {x : Int32} (hx : x.toInt = 1) : qI 6 269 [some (.inl (some 2000012)), some (zi x)] h t (fun y h1 => h = h1 ∧ y.toInt = 115) := by
  have e := ofI2 (w := 1) hx (by decide)
  subst e
  exact ⟨115, h, qE_ev (nn := 60) rfl, rfl, by decide⟩
theorem tln13 {h : zh} {t : Nat} : qI 6 268 [some (.inl (some 2000013))] h t (fun y h1 => h = h1 ∧ y.toInt = 1) := ⟨1, h, qE_ev (nn := 60) rfl, rfl, by decide⟩
theorem tch13_0 {h : zh} {t : Nat} {x : Int32} (hx : x.toInt = 0) : qI 6 269 [some (.inl (some 2000013)), some (zi x)] h t (fun y h1 => h = h1 ∧ y.toInt = 40) := by
  have e := ofI2 (w := 0) hx (by decide)
  subst e
  exact ⟨40, h, qE_ev (nn := 60) rfl, rfl, by decide⟩
theorem tln14 {h : zh} {t : Nat} : qI 6 268 [some (.inl (some 2000014))] h t (fun y h1 => h = h1 ∧ y.toInt = 1) := ⟨1, h, qE_ev (nn := 60) rfl, rfl, by decide⟩
theorem tch14_0 {h : zh} {t : Nat} {x : Int32} (hx : x.toInt = 0) : qI 6 269 [some (.inl (some 2000014)), some (zi x)] h t (fun y h1 => h = h1 ∧ y.toInt = 44) := by
  have e := ofI2 (w := 0) hx (by decide)
  subst e
  exact ⟨44, h, qE_ev (nn := 60) rfl, rfl, by decide⟩
theorem tln15 {h : zh} {t : Nat} : qI 6 268 [some (.inl (some 2000015))] h t (fun y h1 => h = h1 ∧ y.toInt = 1) := ⟨1, h, qE_ev (nn := 60) rfl, rfl, by decide⟩
theorem tch15_0 {h : zh} {t : Nat} {x : Int32} (hx : x.toInt = 0) : qI 6 269 [some (.inl (some 2000015)), some (zi x)] h t (fun y h1 => h = h1 ∧ y.toInt = 41) := by
  have e := ofI2 (w := 0) hx (by decide)
  subst e
  exact ⟨41, h, qE_ev (nn := 60) rfl, rfl, by decide⟩
theorem tln16 {h : zh} {t : Nat} : qI 6 268 [some (.inl (some 2000016))] h t (fun y h1 => h = h1 ∧ y.toInt = 4) := ⟨4, h, qE_ev (nn := 60) rfl, rfl, by decide⟩
theorem tch16_0 {h : zh} {t : Nat} {x : Int32} (hx : x.toInt = 0) : qI 6 269 [some (.inl (some 2000016)), some (zi x)] h t (fun y h1 => h = h1 ∧ y.toInt = 116) := by
  have e := ofI2 (w := 0) hx (by decide)
  subst e
  exact ⟨116, h, qE_ev (nn := 60) rfl, rfl, by decide⟩
theorem tch16_1 {h : zh} {t : Nat} {x : Int32} (hx : x.toInt = 1) : qI 6 269 [some (.inl (some 2000016)), some (zi x)] h t (fun y h1 => h = h1 ∧ y.toInt = 114) := by
  have e := ofI2 (w := 1) hx (by decide)
  subst e
  exact ⟨114, h, qE_ev (nn := 60) rfl, rfl, by decide⟩
theorem tch16_2 {h : zh} {t : Nat} {x : Int32} (hx : x.toInt = 2) : qI 6 269 [some (.inl (some 2000016)), some (zi x)] h t (fun y h1 => h = h1 ∧ y.toInt = 101) := by
  have e := ofI2 (w := 2) hx (by decide)
  subst e
  exact ⟨101, h, qE_ev (nn := 60) rfl, rfl, by decide⟩
theorem tch16_3 {h : zh} {t : Nat} {x : Int32} (hx : x.toInt = 3) : qI 6 269 [some (.inl (some 2000016)), some (zi x)] h t (fun y h1 => h = h1 ∧ y.toInt = 101) := by
  have e := ofI2 (w := 3) hx (by decide)
  subst e
  exact ⟨101, h, qE_ev (nn := 60) rfl, rfl, by decide⟩
theorem tln17 {h : zh} {t : Nat} : qI 6 268 [some (.inl (some 2000017))] h t (fun y h1 => h = h1 ∧ y.toInt = 2) := ⟨2, h, qE_ev (nn := 60) rfl, rfl, by decide⟩
theorem tch17_0 {h : zh} {t : Nat} {x : Int32} (hx : x.toInt = 0) : qI 6 269 [some (.inl (some 2000017)), some (zi x)] h t (fun y h1 => h = h1 ∧ y.toInt = 45) := by
  have e := ofI2 (w := 0) hx (by decide)
  subst e
  exact ⟨45, h, qE_ev (nn := 60) rfl, rfl, by decide⟩
theorem tch17_1 {h : zh} {t : Nat} {x : Int32} (hx : x.toInt = 1) : qI 6 269 [some (.inl (some 2000017)), some (zi x)] h t (fun y h1 => h = h1 ∧ y.toInt = 62) := by
  have e := ofI2 (w := 1) hx (by decide)
  subst e
  exact ⟨62, h, qE_ev (nn := 60) rfl, rfl, by decide⟩
theorem tln18 {h : zh} {t : Nat} : qI 6 268 [some (.inl (some 2000018))] h t (fun y h1 => h = h1 ∧ y.toInt = 1) := ⟨1, h, qE_ev (nn := 60) rfl, rfl, by decide⟩
theorem tch18_0 {h : zh} {t : Nat} {x : Int32} (hx : x.toInt = 0) : qI 6 269 [some (.inl (some 2000018)), some (zi x)] h t (fun y h1 => h = h1 ∧ y.toInt = 61) := by
  have e := ofI2 (w := 0) hx (by decide)
  subst e
  exact ⟨61, h, qE_ev (nn := 60) rfl, rfl, by decide⟩
theorem tln19 {h : zh} {t : Nat} : qI 6 268 [some (.inl (some 2000019))] h t (fun y h1 => h = h1 ∧ y.toInt = 2) := ⟨2, h, qE_ev (nn := 60) rfl, rfl, by decide⟩
theorem tch19_0 {h : zh} {t : Nat} {x : Int32} (hx : x.toInt = 0) : qI 6 269 [some (.inl (some 2000019)), some (zi x)] h t (fun y h1 => h = h1 ∧ y.toInt = 33) := by
  have e := ofI2 (w := 0) hx (by decide)
  subst e
  exact ⟨33, h, qE_ev (nn := 60) rfl, rfl, by decide⟩
theorem tch19_1 {h : zh} {t : Nat} {x : Int32} (hx : x.toInt = 1) : qI 6 269 [some (.inl (some 2000019)), some (zi x)] h t (fun y h1 => h = h1 ∧ y.toInt = 61) := by
  have e := ofI2 (w := 1) hx (by decide)
  subst e
  exact ⟨61, h, qE_ev (nn := 60) rfl, rfl, by decide⟩
theorem tln20 {h : zh} {t : Nat} : qI 6 268 [some (.inl (some 2000020))] h t (fun y h1 => h = h1 ∧ y.toInt = 1) := ⟨1, h, qE_ev (nn := 60) rfl, rfl, by decide⟩
theorem tch20_0 {h : zh} {t : Nat} {x : Int32} (hx : x.toInt = 0) : qI 6 269 [some (.inl (some 2000020)), some (zi x)] h t (fun y h1 => h = h1 ∧ y.toInt = 42) := by
  have e := ofI2 (w := 0) hx (by decide)
  subst e
  exact ⟨42, h, qE_ev (nn := 60) rfl, rfl, by decide⟩
theorem tln21 {h : zh} {t : Nat} : qI 6 268 [some (.inl (some 2000021))] h t (fun y h1 => h = h1 ∧ y.toInt = 2) := ⟨2, h, qE_ev (nn := 60) rfl, rfl, by decide⟩
theorem tch21_0 {h : zh} {t : Nat} {x : Int32} (hx : x.toInt = 0) : qI 6 269 [some (.inl (some 2000021)), some (zi x)] h t (fun y h1 => h = h1 ∧ y.toInt = 124) := by
  have e := ofI2 (w := 0) hx (by decide)
  subst e
  exact ⟨124, h, qE_ev (nn := 60) rfl, rfl, by decide⟩
theorem tch21_1 {h : zh} {t : Nat} {x : Int32} (hx : x.toInt = 1) : qI 6 269 [some (.inl (some 2000021)), some (zi x)] h t (fun y h1 => h = h1 ∧ y.toInt = 45) := by
  have e := ofI2 (w := 1) hx (by decide)
  subst e
  exact ⟨45, h, qE_ev (nn := 60) rfl, rfl, by decide⟩
