/-! the reference: from the start, what may not be left; print -/
theorem m_cm1q {d t : Nat} {τ : List Nat} {h : zh} {b : bsT} {xf xw : Int32} (hg : hG τ h) (bs : bsM h 55 b) (ok : okB b) (cn : ci_ h 52 26 0) (ml : kx_ h 52 32 0) (exf : xf.toInt = -1) : qI (d + 8) 231 [some (.inl (some 52)), some (zi xf), some (zi xw), none, none] h t (fun y h1 => y.toInt = 1 ∧ okS (bgA b) ∧ ∃ e, setR (cyP [] (-1)) false (bgA b) (-1) 1 e ∧ hG τ h1 ∧ pmE τ h1 0 e ∧ ci_ h1 52 26 1 ∧ ∀ k j, k ≠ 378 → k ≠ 71 → (k ≠ 52 ∨ j ≠ 26) → ((k < 371 ∨ 376 < k) ∨ j ≠ 0) → k ≠ 68 → k ≠ 69 → hsl h1 k j = hsl h k j) := by
  refine qI_of ?_
  refine y_same (i := .iload_n 1) (len := 1) (r := (0, 0, 0, 0)) (pc' := 1) (ls' := [some (.inl (some 52)), some (zi xf), some (zi xw), none, none]) (st' := [zi xf]) (by decide +kernel) (fun k q => by cases q) rfl ?_
  refine y_ic (c := (-1)) (len := 1) (r := (0, 0, 0, 0)) (by decide +kernel) (by decide) (fun y4263 hy4263 => ?_)
  refine y_cF (c := .ne) (off := 10) (len := 3) (r := (0, 0, 0, 0)) (by decide +kernel) (acmpF (c := .ne) (by show _ = _; omega)) ?_
  refine y_same (i := .aload_n 0) (len := 1) (r := (0, 0, 0, 0)) (pc' := 6) (ls' := [some (.inl (some 52)), some (zi xf), some (zi xw), none, none]) (st' := [.inl (some 52)]) (by decide +kernel) (fun k q => by cases q) rfl ?_
  refine y_cV (i := .invokevirtual 345) (len := 3) (r := (0, 225, 12, 1640)) (nL := 8) (k := 0) (n := 1) (hs := []) (args := [.inl (some 52)]) (rest := []) (l0 := [some (.inl (some 52)), none, none, none, none, none, none, none]) (by decide +kernel) (Or.inr (Or.inl ⟨_, rfl⟩)) rfl rfl rfl rfl (Nat.le_of_ble_eq_true rfl) (z52 hg) rfl (qV_le (by omega) (m_bg (d := 0) hg bs ok)) (fun h4264 hR4264 => ?_)
  obtain ⟨Q4264, F4264⟩ := hR4264
  refine y_goto (off := 35) (pc' := 44) (len := 3) (r := (0, 0, 0, 0)) (by decide +kernel) (by decide +kernel) ?_
  refine qX_I (cmq_f (d := d + 1) (n := 0) (L := []) (by decide) Q4264 exf (ci_up cn (F4264 52 26 (by omega))) (kx_up ml (F4264 52 32 (by omega))) rfl (fun k e hk => (by cases hk)) (fun e m => (by cases m)) (fun e m => (by cases m)) (fun k e hk => (by cases hk))) (fun y h1 hR => ?_)
  rcases hR with ⟨-, -, q3⟩ | ⟨q1, q2, e9, q3, q4, q5, q6, q7⟩
  · exact absurd q3 (bg_nb ok)
  · exact ⟨q1, okS_Q Q4264.2.2.2, e9, q3, q4, q5, q6, fun k j h1 h2 h3 h4 h5 h6 => (q7 k j (by omega) h3 h4 h5 h6).trans (F4264 k j h1)⟩
theorem pw_16 {d t : Nat} {τ : List Nat} {h : zh} {b : bsT} {xo : Int32} (exo : xo.toInt = 0) (hg : hG τ h) (bs : bsM h 55 b) (ok : okB b) : qX (d + 8) 238 16 [some (.inl (some 52)), some (zi xo), none] [] h t (rV (pvO τ 0 (prfF cyP false b)) t) := by
  refine y_same (i := .aload_n 0) (len := 1) (r := (0, 0, 0, 0)) (pc' := 17) (ls' := [some (.inl (some 52)), some (zi xo), none]) (st' := [.inl (some 52)]) (by decide +kernel) (fun k q => by cases q) rfl ?_
  refine y_ic (c := 1) (len := 1) (r := (0, 0, 0, 0)) (by decide +kernel) (by decide) (fun y4265 hy4265 => ?_)
  refine y_put (j := 220) (lo := 0) (hi := 1) (len := 3) (r := (12, 31, 1, 1359)) (by decide +kernel) hg (t52 hg) at52 rfl rfl (by decide) rfl (by omega) (by omega) (zfit_b (by omega) (by omega)).1 (fun h4266 hg4266 hl4266 hs4266 ho4266 => ?_)
  have ho4266 : hO 52 31 h h4266 := ho4266
  have hs4266 : hsl h4266 52 31 = some (zi y4265) := hs4266
  refine y_same (i := .aload_n 0) (len := 1) (r := (0, 0, 0, 0)) (pc' := 22) (ls' := [some (.inl (some 52)), some (zi xo), none]) (st' := [.inl (some 52)]) (by decide +kernel) (fun k q => by cases q) rfl ?_
  refine y_same (i := .iload_n 1) (len := 1) (r := (0, 0, 0, 0)) (pc' := 23) (ls' := [some (.inl (some 52)), some (zi xo), none]) (st' := [zi xo, .inl (some 52)]) (by decide +kernel) (fun k q => by cases q) rfl ?_
  refine y_put (j := 363) (lo := 0) (hi := 1) (len := 3) (r := (12, 32, 1, 1360)) (by decide +kernel) hg4266 (t52 hg4266) at52 rfl rfl (by decide) rfl (by omega) (by omega) (zfit_b (by omega) (by omega)).1 (fun h4267 hg4267 hl4267 hs4267 ho4267 => ?_)
  have ho4267 : hO 52 32 h4266 h4267 := ho4267
  have hs4267 : hsl h4267 52 32 = some (zi xo) := hs4267
  refine y_same (i := .aload_n 0) (len := 1) (r := (0, 0, 0, 0)) (pc' := 27) (ls' := [some (.inl (some 52)), some (zi xo), none]) (st' := [.inl (some 52)]) (by decide +kernel) (fun k q => by cases q) rfl ?_
  refine y_ic (c := 0) (len := 1) (r := (0, 0, 0, 0)) (by decide +kernel) (by decide) (fun y4268 hy4268 => ?_)
  refine y_put (j := 348) (lo := 0) (hi := 300) (len := 3) (r := (12, 26, 0, 1354)) (by decide +kernel) hg4267 (t52 hg4267) at52 rfl rfl (by decide) rfl (by omega) (by omega) rfl (fun h4269 hg4269 hl4269 hs4269 ho4269 => ?_)
  have ho4269 : hO 52 26 h4267 h4269 := ho4269
  have hs4269 : hsl h4269 52 26 = some (zi y4268) := hs4269
  refine y_same (i := .aload_n 0) (len := 1) (r := (0, 0, 0, 0)) (pc' := 32) (ls' := [some (.inl (some 52)), some (zi xo), none]) (st' := [.inl (some 52)]) (by decide +kernel) (fun k q => by cases q) rfl ?_
  refine y_ic (c := 0) (len := 1) (r := (0, 0, 0, 0)) (by decide +kernel) (by decide) (fun y4270 hy4270 => ?_)
  refine y_put (j := 385) (lo := 0) (hi := 300) (len := 3) (r := (12, 29, 0, 1357)) (by decide +kernel) hg4269 (t52 hg4269) at52 rfl rfl (by decide) rfl (by omega) (by omega) rfl (fun h4271 hg4271 hl4271 hs4271 ho4271 => ?_)
  have ho4271 : hO 52 29 h4269 h4271 := ho4271
  have hs4271 : hsl h4271 52 29 = some (zi y4270) := hs4271
  refine y_same (i := .aload_n 0) (len := 1) (r := (0, 0, 0, 0)) (pc' := 37) (ls' := [some (.inl (some 52)), some (zi xo), none]) (st' := [.inl (some 52)]) (by decide +kernel) (fun k q => by cases q) rfl ?_
  refine y_ic (c := 0) (len := 1) (r := (0, 0, 0, 0)) (by decide +kernel) (by decide) (fun y4272 hy4272 => ?_)
  refine y_put (j := 382) (lo := 0) (hi := 600) (len := 3) (r := (12, 30, 0, 1358)) (by decide +kernel) hg4271 (t52 hg4271) at52 rfl rfl (by decide) rfl (by omega) (by omega) rfl (fun h4273 hg4273 hl4273 hs4273 ho4273 => ?_)
  have ho4273 : hO 52 30 h4271 h4273 := ho4273
  have hs4273 : hsl h4273 52 30 = some (zi y4272) := hs4273
  refine y_same (i := .aload_n 0) (len := 1) (r := (0, 0, 0, 0)) (pc' := 42) (ls' := [some (.inl (some 52)), some (zi xo), none]) (st' := [.inl (some 52)]) (by decide +kernel) (fun k q => by cases q) rfl ?_
  refine y_ic (c := (-1)) (len := 1) (r := (0, 0, 0, 0)) (by decide +kernel) (by decide) (fun y4274 hy4274 => ?_)
  refine y_put (j := 388) (lo := (-2147483648)) (hi := 2147483647) (len := 3) (r := (12, 28, 0, 1356)) (by decide +kernel) hg4273 (t52 hg4273) at52 rfl rfl (by decide) rfl (qin_full _).1 (qin_full _).2 rfl (fun h4275 hg4275 hl4275 hs4275 ho4275 => ?_)
  have ho4275 : hO 52 28 h4273 h4275 := ho4275
  have hs4275 : hsl h4275 52 28 = some (zi y4274) := hs4275
  refine y_same (i := .aload_n 0) (len := 1) (r := (0, 0, 0, 0)) (pc' := 47) (ls' := [some (.inl (some 52)), some (zi xo), none]) (st' := [.inl (some 52)]) (by decide +kernel) (fun k q => by cases q) rfl ?_
  refine y_ic (c := 1) (len := 1) (r := (0, 0, 0, 0)) (by decide +kernel) (by decide) (fun y4276 hy4276 => ?_)
  refine y_put (j := 391) (lo := (-2147483648)) (hi := 2147483647) (len := 3) (r := (12, 27, 0, 1355)) (by decide +kernel) hg4275 (t52 hg4275) at52 rfl rfl (by decide) rfl (qin_full _).1 (qin_full _).2 rfl (fun h4277 hg4277 hl4277 hs4277 ho4277 => ?_)
  have ho4277 : hO 52 27 h4275 h4277 := ho4277
  have hs4277 : hsl h4277 52 27 = some (zi y4276) := hs4277
  refine y_same (i := .aload_n 0) (len := 1) (r := (0, 0, 0, 0)) (pc' := 52) (ls' := [some (.inl (some 52)), some (zi xo), none]) (st' := [.inl (some 52)]) (by decide +kernel) (fun k q => by cases q) rfl ?_
  refine y_ic (c := (-1)) (len := 1) (r := (0, 0, 0, 0)) (by decide +kernel) (by decide) (fun y4278 hy4278 => ?_)
  refine y_ic (c := 0) (len := 1) (r := (0, 0, 0, 0)) (by decide +kernel) (by decide) (fun y4279 hy4279 => ?_)
  have hv4281 := (ho4275 52 30 (Or.inr (by omega))).trans hs4273
  have hv4282 := (ho4277 52 30 (Or.inr (by omega))).trans hv4281
  refine y_cV (i := .invokevirtual 394) (len := 3) (r := (0, 237, 12, 1632)) (nL := 3) (k := 0) (n := 3) (hs := []) (args := [.inl (some 52), zi y4278, zi y4279]) (rest := []) (l0 := [some (.inl (some 52)), some (zi y4278), some (zi y4279)]) (by decide +kernel) (Or.inr (Or.inl ⟨_, rfl⟩)) rfl rfl rfl rfl (Nat.le_of_ble_eq_true rfl) (z52 hg4277) rfl (qV_le (by omega) (m_wts (d := 0) (td := 0) hg4277 (by omega) (by omega) (by omega) (by omega) ⟨_, hv4282, by omega⟩ (by omega))) (fun h4280 hR4280 => ?_)
  obtain ⟨hg4280, a4280, b4280, c4280, F4280⟩ := hR4280
  obtain ⟨xt4280, ht4280, et4280⟩ := c4280
  refine y_same (i := .aload_n 0) (len := 1) (r := (0, 0, 0, 0)) (pc' := 58) (ls' := [some (.inl (some 52)), some (zi xo), none]) (st' := [.inl (some 52)]) (by decide +kernel) (fun k q => by cases q) rfl ?_
  refine y_get (j := 382) (len := 3) (r := (12, 30, 0, 1358)) (by decide +kernel) hg4280 (t52 hg4280) at52 rfl rfl ht4280 ?_
  refine y_iF (c := .le) (off := 153) (len := 3) (r := (0, 0, 0, 0)) (by decide +kernel) (acmpF (c := .le) (by show _ < _; omega)) ?_
  refine y_same (i := .aload_n 0) (len := 1) (r := (0, 0, 0, 0)) (pc' := 65) (ls' := [some (.inl (some 52)), some (zi xo), none]) (st' := [.inl (some 52)]) (by decide +kernel) (fun k q => by cases q) rfl ?_
  refine y_same (i := .dup) (len := 1) (r := (0, 0, 0, 0)) (pc' := 66) (ls' := [some (.inl (some 52)), some (zi xo), none]) (st' := [.inl (some 52), .inl (some 52)]) (by decide +kernel) (fun k q => by cases q) rfl ?_
  refine y_get (j := 382) (len := 3) (r := (12, 30, 0, 1358)) (by decide +kernel) hg4280 (t52 hg4280) at52 rfl rfl ht4280 ?_
  refine y_ic (c := 1) (len := 1) (r := (0, 0, 0, 0)) (by decide +kernel) (by decide) (fun y4283 hy4283 => ?_)
  refine y_sub (len := 1) (r := (0, 0, 0, 0)) (by decide +kernel) (by omega) (by omega) (fun y4284 hy4284 => ?_)
  refine y_put (j := 382) (lo := 0) (hi := 600) (len := 3) (r := (12, 30, 0, 1358)) (by decide +kernel) hg4280 (t52 hg4280) at52 rfl rfl (by decide) rfl (by omega) (by omega) rfl (fun h4285 hg4285 hl4285 hs4285 ho4285 => ?_)
  have ho4285 : hO 52 30 h4280 h4285 := ho4285
  have hs4285 : hsl h4285 52 30 = some (zi y4284) := hs4285
  refine y_same (i := .aload_n 0) (len := 1) (r := (0, 0, 0, 0)) (pc' := 75) (ls' := [some (.inl (some 52)), some (zi xo), none]) (st' := [.inl (some 52)]) (by decide +kernel) (fun k q => by cases q) rfl ?_
  refine y_same (i := .aload_n 0) (len := 1) (r := (0, 0, 0, 0)) (pc' := 76) (ls' := [some (.inl (some 52)), some (zi xo), none]) (st' := [.inl (some 52), .inl (some 52)]) (by decide +kernel) (fun k q => by cases q) rfl ?_
  refine y_get (j := 64) (len := 3) (r := (12, 24, 2, 1352)) (by decide +kernel) hg4285 (t52 hg4285) at52 rfl rfl (g_r52 (f := 24) (T2 := 379) hg4285 rfl (by decide)).1 ?_
  refine y_same (i := .aload_n 0) (len := 1) (r := (0, 0, 0, 0)) (pc' := 80) (ls' := [some (.inl (some 52)), some (zi xo), none]) (st' := [.inl (some 52), .inl (some 379), .inl (some 52)]) (by decide +kernel) (fun k q => by cases q) rfl ?_
  refine y_get (j := 382) (len := 3) (r := (12, 30, 0, 1358)) (by decide +kernel) hg4285 (t52 hg4285) at52 rfl rfl hs4285 ?_
  have hv4286 := (ho4285 379 0 (Or.inl (by omega))).trans a4280
  refine y_ial (i := 0) (len := 1) (r := (0, 0, 0, 0)) (by decide +kernel) hg4285 (tu379 hg4285) at379 (by omega) hv4286 ?_
  refine y_same (i := .aload_n 0) (len := 1) (r := (0, 0, 0, 0)) (pc' := 85) (ls' := [some (.inl (some 52)), some (zi xo), none]) (st' := [.inl (some 52), zi y4278, .inl (some 52)]) (by decide +kernel) (fun k q => by cases q) rfl ?_
  refine y_get (j := 67) (len := 3) (r := (12, 25, 2, 1353)) (by decide +kernel) hg4285 (t52 hg4285) at52 rfl rfl (g_r52 (f := 25) (T2 := 380) hg4285 rfl (by decide)).1 ?_
  refine y_same (i := .aload_n 0) (len := 1) (r := (0, 0, 0, 0)) (pc' := 89) (ls' := [some (.inl (some 52)), some (zi xo), none]) (st' := [.inl (some 52), .inl (some 380), zi y4278, .inl (some 52)]) (by decide +kernel) (fun k q => by cases q) rfl ?_
  refine y_get (j := 382) (len := 3) (r := (12, 30, 0, 1358)) (by decide +kernel) hg4285 (t52 hg4285) at52 rfl rfl hs4285 ?_
  have hv4287 := (ho4285 380 0 (Or.inl (by omega))).trans b4280
  refine y_ial (i := 0) (len := 1) (r := (0, 0, 0, 0)) (by decide +kernel) hg4285 (tu380 hg4285) at380 (by omega) hv4287 ?_
  have hv4289 := (ho4271 52 26 (Or.inr (by omega))).trans hs4269
  have hv4290 := (ho4273 52 26 (Or.inr (by omega))).trans hv4289
  have hv4291 := (ho4275 52 26 (Or.inr (by omega))).trans hv4290
  have hv4292 := (ho4277 52 26 (Or.inr (by omega))).trans hv4291
  have hv4293 := (F4280 52 26 (by omega) (by omega)).trans hv4292
  have hv4294 := (ho4285 52 26 (Or.inr (by omega))).trans hv4293
  have hv4295 := (ho4269 52 32 (Or.inr (by omega))).trans hs4267
  have hv4296 := (ho4271 52 32 (Or.inr (by omega))).trans hv4295
  have hv4297 := (ho4273 52 32 (Or.inr (by omega))).trans hv4296
  have hv4298 := (ho4275 52 32 (Or.inr (by omega))).trans hv4297
  have hv4299 := (ho4277 52 32 (Or.inr (by omega))).trans hv4298
  have hv4300 := (F4280 52 32 (by omega) (by omega)).trans hv4299
  have hv4301 := (ho4285 52 32 (Or.inr (by omega))).trans hv4300
  refine y_cI (i := .invokevirtual 397) (len := 3) (r := (0, 231, 12, 1636)) (nL := 5) (k := 2) (n := 3) (hs := []) (args := [.inl (some 52), zi y4278, zi y4279]) (rest := []) (l0 := [some (.inl (some 52)), some (zi y4278), some (zi y4279), none, none]) (by decide +kernel) (Or.inr (Or.inl ⟨_, rfl⟩)) rfl rfl rfl rfl (Nat.le_of_ble_eq_true rfl) (z52 hg4285) rfl (qI_le (by omega) (m_cm1q (d := 0) (b := b) hg4285 (bsM_up bs (fun j => ((ho4285 55 j (by omega)).trans ((F4280 55 j (by omega) (by omega)).trans ((ho4277 55 j (by omega)).trans ((ho4275 55 j (by omega)).trans ((ho4273 55 j (by omega)).trans ((ho4271 55 j (by omega)).trans ((ho4269 55 j (by omega)).trans ((ho4267 55 j (by omega)).trans (ho4266 55 j (by omega)))))))))))) ok ⟨_, hv4294, by omega⟩ ⟨_, hv4301, by omega⟩ (by omega))) (fun y4288 h4288 hRy4288 => ?_)
  obtain ⟨vy4288, ok9, e9, sR, hg4288, pN, cN, F4288⟩ := hRy4288
  refine y_iT (c := .ne) (off := 9) (pc' := 105) (len := 3) (r := (0, 0, 0, 0)) (by decide +kernel) (acmpT (c := .ne) (by show ¬ (_ = _); omega)) (by decide +kernel) ?_
  have hv4302 := (ho4267 52 31 (Or.inr (by omega))).trans hs4266
  have hv4303 := (ho4269 52 31 (Or.inr (by omega))).trans hv4302
  have hv4304 := (ho4271 52 31 (Or.inr (by omega))).trans hv4303
  have hv4305 := (ho4273 52 31 (Or.inr (by omega))).trans hv4304
  have hv4306 := (ho4275 52 31 (Or.inr (by omega))).trans hv4305
  have hv4307 := (ho4277 52 31 (Or.inr (by omega))).trans hv4306
  have hv4308 := (F4280 52 31 (by omega) (by omega)).trans hv4307
  have hv4309 := (ho4285 52 31 (Or.inr (by omega))).trans hv4308
  have hv4310 := (F4288 52 31 (by omega) (by omega) (by omega) (by omega) (by omega) (by omega)).trans hv4309
  have hv4311 := (F4288 52 32 (by omega) (by omega) (by omega) (by omega) (by omega) (by omega)).trans hv4301
  have hv4312 := (F4280 52 27 (by omega) (by omega)).trans hs4277
  have hv4313 := (ho4285 52 27 (Or.inr (by omega))).trans hv4312
  have hv4314 := (F4288 52 27 (by omega) (by omega) (by omega) (by omega) (by omega) (by omega)).trans hv4313
  have hv4315 := (ho4273 52 29 (Or.inr (by omega))).trans hs4271
  have hv4316 := (ho4275 52 29 (Or.inr (by omega))).trans hv4315
  have hv4317 := (ho4277 52 29 (Or.inr (by omega))).trans hv4316
  have hv4318 := (F4280 52 29 (by omega) (by omega)).trans hv4317
  have hv4319 := (ho4285 52 29 (Or.inr (by omega))).trans hv4318
  have hv4320 := (F4288 52 29 (by omega) (by omega) (by omega) (by omega) (by omega) (by omega)).trans hv4319
  have hv4321 := (F4288 52 30 (by omega) (by omega) (by omega) (by omega) (by omega) (by omega)).trans hs4285
  obtain ⟨sE, ag⟩ := setF_ag (cy := cyP) (lv := false) (L := []) ok9 sR
  have pF := pmE_ag pN ag
  have wE := wf_set sE (bg_nb ok) (by omega) (by omega) (fun q => (pF.2.2.2.1 q).2.2.2)
  refine pwl_ 300 h4288 [] (setF cyP false [] (bgA b) (-1) 1) [] none ⟨hg4288, ⟨_, hv4310, by omega⟩, ⟨_, hv4311, by omega⟩, ⟨_, hv4314, by omega⟩, cN, fun k e8 hk => (sn_cs hk).elim (fun q => by cases q) (fun q => by obtain ⟨q1, q2⟩ := q; subst q1; subst q2; exact pF)⟩ ⟨fun e8 m8 => ?_, nv_app (fun e m => (by cases m)) (nv_set sE), chI_1 sE.2.1 sE.1⟩ ⟨_, hv4320, by show _ = ((0 : Nat) : Int); omega⟩ (fun j k hk => (by cases hk)) ⟨⟨_, hv4321, by show _ = ((0 : Nat) : Int); omega⟩, fun j i w hj => (by cases hj)⟩ ⟨fun i w m => (by cases m), by show 0 ≤ _; omega⟩ rfl (by decide) (by show 0 ≤ 0; omega)
  · rw [List.mem_singleton.mp m8]
    exact wE
theorem m_pwz {d t : Nat} {τ : List Nat} {h : zh} {b : bsT} {xo : Int32} (exo : xo.toInt = 0) (hg : hG τ h) (bs : bsM h 55 b) (ok : okB b) (np : kx_ h 52 31 0 ∨ (kx_ h 52 31 1 ∧ kx_ h 52 32 1)) : qV (d + 9) 238 [some (.inl (some 52)), some (zi xo), none] h t (pvO τ 0 (prfF cyP false b)) := by
  refine qV_of ?_
  rcases np with ⟨xp, hp31, ep⟩ | ⟨⟨xp, hp31, ep⟩, ⟨xv, hv32, ev⟩⟩
  ·
    refine y_same (i := .aload_n 0) (len := 1) (r := (0, 0, 0, 0)) (pc' := 1) (ls' := [some (.inl (some 52)), some (zi xo), none]) (st' := [.inl (some 52)]) (by decide +kernel) (fun k q => by cases q) rfl ?_
    refine y_get (j := 220) (len := 3) (r := (12, 31, 1, 1359)) (by decide +kernel) hg (t52 hg) at52 rfl rfl hp31 ?_
    refine y_iT (c := .eq) (off := 12) (pc' := 16) (len := 3) (r := (0, 0, 0, 0)) (by decide +kernel) (acmpT (c := .eq) (by show _ = _; omega)) (by decide +kernel) ?_
    exact pw_16 exo hg bs ok
  ·
    refine y_same (i := .aload_n 0) (len := 1) (r := (0, 0, 0, 0)) (pc' := 1) (ls' := [some (.inl (some 52)), some (zi xo), none]) (st' := [.inl (some 52)]) (by decide +kernel) (fun k q => by cases q) rfl ?_
    refine y_get (j := 220) (len := 3) (r := (12, 31, 1, 1359)) (by decide +kernel) hg (t52 hg) at52 rfl rfl hp31 ?_
    refine y_iF (c := .eq) (off := 12) (len := 3) (r := (0, 0, 0, 0)) (by decide +kernel) (acmpF (c := .eq) (by show ¬ (_ = _); omega)) ?_
    refine y_same (i := .aload_n 0) (len := 1) (r := (0, 0, 0, 0)) (pc' := 8) (ls' := [some (.inl (some 52)), some (zi xo), none]) (st' := [.inl (some 52)]) (by decide +kernel) (fun k q => by cases q) rfl ?_
    refine y_get (j := 363) (len := 3) (r := (12, 32, 1, 1360)) (by decide +kernel) hg (t52 hg) at52 rfl rfl hv32 ?_
    refine y_same (i := .iload_n 1) (len := 1) (r := (0, 0, 0, 0)) (pc' := 12) (ls' := [some (.inl (some 52)), some (zi xo), none]) (st' := [zi xo, zi xv]) (by decide +kernel) (fun k q => by cases q) rfl ?_
    refine y_cT (c := .ne) (off := 4) (pc' := 16) (len := 3) (r := (0, 0, 0, 0)) (by decide +kernel) (acmpT (c := .ne) (by show ¬ (_ = _); omega)) (by decide +kernel) ?_
    exact pw_16 exo hg bs ok
theorem m_pwk {d t : Nat} {τ : List Nat} {h : zh} {xo : Int32} (exo : xo.toInt = 0) (hg : hG τ h) (ip : kx_ h 52 31 1) (iv : kx_ h 52 32 0) : qV (d + 1) 238 [some (.inl (some 52)), some (zi xo), none] h t (fun h1 => h = h1) := by
  obtain ⟨xp, hp31, ep⟩ := ip
  obtain ⟨xv, hv32, ev⟩ := iv
  refine qV_of ?_
  refine y_same (i := .aload_n 0) (len := 1) (r := (0, 0, 0, 0)) (pc' := 1) (ls' := [some (.inl (some 52)), some (zi xo), none]) (st' := [.inl (some 52)]) (by decide +kernel) (fun k q => by cases q) rfl ?_
  refine y_get (j := 220) (len := 3) (r := (12, 31, 1, 1359)) (by decide +kernel) hg (t52 hg) at52 rfl rfl hp31 ?_
  refine y_iF (c := .eq) (off := 12) (len := 3) (r := (0, 0, 0, 0)) (by decide +kernel) (acmpF (c := .eq) (by show ¬ (_ = _); omega)) ?_
  refine y_same (i := .aload_n 0) (len := 1) (r := (0, 0, 0, 0)) (pc' := 8) (ls' := [some (.inl (some 52)), some (zi xo), none]) (st' := [.inl (some 52)]) (by decide +kernel) (fun k q => by cases q) rfl ?_
  refine y_get (j := 363) (len := 3) (r := (12, 32, 1, 1360)) (by decide +kernel) hg (t52 hg) at52 rfl rfl hv32 ?_
  refine y_same (i := .iload_n 1) (len := 1) (r := (0, 0, 0, 0)) (pc' := 12) (ls' := [some (.inl (some 52)), some (zi xo), none]) (st' := [zi xo, zi xv]) (by decide +kernel) (fun k q => by cases q) rfl ?_
  refine y_cF (c := .ne) (off := 4) (len := 3) (r := (0, 0, 0, 0)) (by decide +kernel) (acmpF (c := .ne) (by show _ = _; omega)) ?_
  refine y_rV (len := 1) (r := (0, 0, 0, 0)) (nL := 3) (n9 := 2) (hs := []) (by decide +kernel) rfl ?_
  rfl
theorem sumM_l {d t : Nat} {τ : List Nat} {h : zh} {L : List enT} {xn : Int32} (hg : hG τ h) (hn26 : hsl h 52 26 = some (zi xn)) (en26 : xn.toInt = (L.length : Int)) (hL : L.length ≤ 300) (V : ∀ (k : Nat) (e : enT), L[k]? = some e → ci_ h 373 k e.2.1) : ∀ (n : Nat) (k : Nat) (w : Int64) (xk : Int32), (w = prS (L.take k)) → (xk.toInt = (k : Int)) → (k ≤ L.length) → (L.length < k + n) → qX (d + 1) 263 14 [some (.inl (some 52)), some (.inr (.inr (.inl w))), none, some (zi xk)] [] h t (rL (fun w h1 => h = h1 ∧ w = prS L) t) := by
  intro n
  induction n with
  | zero =>
    intro k w xk hw hxk hk hn
    exfalso
    omega
  | succ n ih =>
    intro k w xk hw hxk hk hn
    skip
    refine y_same (i := .iload_n 3) (len := 1) (r := (0, 0, 0, 0)) (pc' := 15) (ls' := [some (.inl (some 52)), some (.inr (.inr (.inl w))), none, some (zi xk)]) (st' := [zi xk]) (by decide +kernel) (fun k q => by cases q) rfl ?_
    refine y_same (i := .aload_n 0) (len := 1) (r := (0, 0, 0, 0)) (pc' := 16) (ls' := [some (.inl (some 52)), some (.inr (.inr (.inl w))), none, some (zi xk)]) (st' := [.inl (some 52), zi xk]) (by decide +kernel) (fun k q => by cases q) rfl ?_
    refine y_get (j := 348) (len := 3) (r := (12, 26, 0, 1354)) (by decide +kernel) hg (t52 hg) at52 rfl rfl hn26 ?_
    rcases Decidable.em (xk.toInt ≥ xn.toInt) with q4322 | q4322
    ·
      refine y_cT (c := .ge) (off := 23) (pc' := 42) (len := 3) (r := (0, 0, 0, 0)) (by decide +kernel) (acmpT (c := .ge) (by show _ ≤ _; omega)) (by decide +kernel) ?_
      refine y_same (i := .lload_n 1) (len := 1) (r := (0, 0, 0, 0)) (pc' := 43) (ls' := [some (.inl (some 52)), some (.inr (.inr (.inl w))), none, some (zi xk)]) (st' := [.inr (.inr (.inl w))]) (by decide +kernel) (fun k q => by cases q) rfl ?_
      refine y_rL (len := 1) (r := (0, 0, 0, 0)) (nL := 4) (k := 4) (n9 := 1) (hs := []) (by decide +kernel) rfl rfl ?_
      exact ⟨rfl, by rw [hw, List.take_of_length_le (by omega)]⟩
    ·
      refine y_cF (c := .ge) (off := 23) (len := 3) (r := (0, 0, 0, 0)) (by decide +kernel) (acmpF (c := .ge) (by show _ < _; omega)) ?_
      obtain ⟨e, ke⟩ : ∃ i9, L[k]? = some i9 := ⟨_, List.getElem?_eq_getElem (by omega)⟩
      obtain ⟨xs, hs373, es⟩ := V k e ke
      have ex := nI_of_i es
      refine y_l2 (i := 474) (c := 31) (len := 3) (r := (2, 31, 1866, 0)) (by decide +kernel) rfl ?_
      refine y_same (i := .lload_n 1) (len := 1) (r := (0, 0, 0, 0)) (pc' := 26) (ls' := [some (.inl (some 52)), some (.inr (.inr (.inl w))), none, some (zi xk)]) (st' := [.inr (.inr (.inl w)), .inr (.inr (.inl (Int64.ofNat 31)))]) (by decide +kernel) (fun k q => by cases q) rfl ?_
      refine y_lbin (i := .lmul) (f := fun x y => x * y) (len := 1) (r := (0, 0, 0, 0)) (by decide +kernel) rfl rfl (fun k q => by cases q) ?_
      show qX (d + 1) 263 27 [some (.inl (some 52)), some (.inr (.inr (.inl w))), none, some (zi xk)] [.inr (.inr (.inl ((Int64.ofNat 31) * w)))] h t _
      refine y_same (i := .aload_n 0) (len := 1) (r := (0, 0, 0, 0)) (pc' := 28) (ls' := [some (.inl (some 52)), some (.inr (.inr (.inl w))), none, some (zi xk)]) (st' := [.inl (some 52), .inr (.inr (.inl ((Int64.ofNat 31) * w)))]) (by decide +kernel) (fun k q => by cases q) rfl ?_
      refine y_get (j := 46) (len := 3) (r := (12, 18, 2, 1346)) (by decide +kernel) hg (t52 hg) at52 rfl rfl (g_r52 (f := 18) (T2 := 373) hg rfl (by decide)).1 ?_
      refine y_same (i := .iload_n 3) (len := 1) (r := (0, 0, 0, 0)) (pc' := 32) (ls' := [some (.inl (some 52)), some (.inr (.inr (.inl w))), none, some (zi xk)]) (st' := [zi xk, .inl (some 373), .inr (.inr (.inl ((Int64.ofNat 31) * w)))]) (by decide +kernel) (fun k q => by cases q) rfl ?_
      refine y_ial (i := k) (len := 1) (r := (0, 0, 0, 0)) (by decide +kernel) hg (tu373 hg) at373 (by omega) hs373 ?_
      refine y_i2l2 (len := 1) (r := (0, 0, 0, 0)) (by decide +kernel) ?_
      refine y_lbin (i := .ladd) (f := fun x y => x + y) (len := 1) (r := (0, 0, 0, 0)) (by decide +kernel) rfl rfl (fun k q => by cases q) ?_
      show qX (d + 1) 263 35 [some (.inl (some 52)), some (.inr (.inr (.inl w))), none, some (zi xk)] [.inr (.inr (.inl (((Int64.ofNat 31) * w) + xs.toInt64)))] h t _
      refine y_same (i := .lstore_n 1) (len := 1) (r := (0, 0, 0, 0)) (pc' := 36) (ls' := [some (.inl (some 52)), some (.inr (.inr (.inl (((Int64.ofNat 31) * w) + xs.toInt64)))), none, some (zi xk)]) (st' := []) (by decide +kernel) (fun k q => by cases q) rfl ?_
      refine y_inc (j := 3) (a := xk) (c := 1) (ls' := fun v => [some (.inl (some 52)), some (.inr (.inr (.inl (((Int64.ofNat 31) * w) + xs.toInt64)))), none, some v]) (len := 3) (r := (0, 0, 0, 0)) (by decide +kernel) rfl (fun _ => rfl) (by decide) (by omega) (by omega) (fun y4323 hy4323 => ?_)
      show qX (d + 1) 263 39 [some (.inl (some 52)), some (.inr (.inr (.inl (((Int64.ofNat 31) * w) + xs.toInt64)))), none, some (zi y4323)] [] h t _
      refine y_goto (off := (-25)) (pc' := 14) (len := 3) (r := (0, 0, 0, 0)) (by decide +kernel) (by decide +kernel) ?_
      exact ih (k + 1) (((Int64.ofNat 31) * w) + xs.toInt64) y4323 (by rw [prS_s ke, hw, ex]) (by omega) (by omega) (by omega)
theorem m_prk {d t : Nat} {τ : List Nat} {h : zh} {L : List enT} (hg : hG τ h) (ip : kx_ h 52 31 1) (iv : kx_ h 52 32 0) (c26 : ci_ h 52 26 L.length) (hL : L.length ≤ 300) (V : ∀ (k : Nat) (e : enT), L[k]? = some e → ci_ h 373 k e.2.1) : qJ (d + 10) 263 [some (.inl (some 52)), none, none, none] h t (fun w h1 => w = prS L ∧ ∀ k j, (k ≠ 52 ∨ j ≠ 0) → hsl h1 k j = hsl h k j) := by
  refine qJ_of ?_
  refine y_same (i := .aload_n 0) (len := 1) (r := (0, 0, 0, 0)) (pc' := 1) (ls' := [some (.inl (some 52)), none, none, none]) (st' := [.inl (some 52)]) (by decide +kernel) (fun k q => by cases q) rfl ?_
  refine y_ic (c := 0) (len := 1) (r := (0, 0, 0, 0)) (by decide +kernel) (by decide) (fun y4324 hy4324 => ?_)
  refine y_put (j := 92) (lo := (-2147483648)) (hi := 2147483647) (len := 3) (r := (12, 0, 0, 1328)) (by decide +kernel) hg (t52 hg) at52 rfl rfl (by decide) rfl (qin_full _).1 (qin_full _).2 rfl (fun h4325 hg4325 hl4325 hs4325 ho4325 => ?_)
  have ho4325 : hO 52 0 h h4325 := ho4325
  have hs4325 : hsl h4325 52 0 = some (zi y4324) := hs4325
  refine y_same (i := .aload_n 0) (len := 1) (r := (0, 0, 0, 0)) (pc' := 6) (ls' := [some (.inl (some 52)), none, none, none]) (st' := [.inl (some 52)]) (by decide +kernel) (fun k q => by cases q) rfl ?_
  refine y_ic (c := 0) (len := 1) (r := (0, 0, 0, 0)) (by decide +kernel) (by decide) (fun y4326 hy4326 => ?_)
  refine y_cV (i := .invokevirtual 400) (len := 3) (r := (0, 238, 12, 1628)) (nL := 3) (k := 0) (n := 2) (hs := []) (args := [.inl (some 52), zi y4326]) (rest := []) (l0 := [some (.inl (some 52)), some (zi y4326), none]) (by decide +kernel) (Or.inr (Or.inl ⟨_, rfl⟩)) rfl rfl rfl rfl (Nat.le_of_ble_eq_true rfl) (z52 hg4325) rfl (qV_le (by omega) (m_pwk (d := 0) (by omega) hg4325 (kx_up ip ((ho4325 52 31 (by omega)))) (kx_up iv ((ho4325 52 32 (by omega)))))) (fun h4327 hR4327 => ?_)
  obtain rfl := hR4327
  refine y_lc0 (len := 1) (r := (0, 0, 0, 0)) (by decide +kernel) ?_
  refine y_same (i := .lstore_n 1) (len := 1) (r := (0, 0, 0, 0)) (pc' := 12) (ls' := [some (.inl (some 52)), some (.inr (.inr (.inl (Int64.ofNat 0)))), none, none]) (st' := []) (by decide +kernel) (fun k q => by cases q) rfl ?_
  refine y_ic (c := 0) (len := 1) (r := (0, 0, 0, 0)) (by decide +kernel) (by decide) (fun y4328 hy4328 => ?_)
  refine y_same (i := .istore_n 3) (len := 1) (r := (0, 0, 0, 0)) (pc' := 14) (ls' := [some (.inl (some 52)), some (.inr (.inr (.inl (Int64.ofNat 0)))), none, some (zi y4328)]) (st' := []) (by decide +kernel) (fun k q => by cases q) rfl ?_
  obtain ⟨xn, hn26, en26⟩ := ci_up c26 ((ho4325 52 26 (by omega)))
  obtain ⟨x9, k9, w9, h9, rfl, rfl, ew⟩ := sumM_l (d := d + 8) (t := t) (L := L) hg4325 hn26 en26 hL (fun k e ke => ci_up (V k e ke) ((ho4325 373 k (by omega)))) (L.length + 1) 0 _ y4328 rfl (by omega) (by omega) (by omega)
  exact ⟨_, k9, w9, _, rfl, ew, fun k j hC => (ho4325 k j (by omega))⟩
theorem m_prz {d t : Nat} {τ : List Nat} {h : zh} {b : bsT} (hg : hG τ h) (bs : bsM h 55 b) (ok : okB b) (np : kx_ h 52 31 0 ∨ (kx_ h 52 31 1 ∧ kx_ h 52 32 1)) : qJ (d + 10) 263 [some (.inl (some 52)), none, none, none] h t (fun w h1 => w = prS (prfF cyP false b).1 ∧ pvO τ 0 (prfF cyP false b) h1) := by
  generalize hR9 : prfF cyP false b = R
  refine qJ_of ?_
  refine y_same (i := .aload_n 0) (len := 1) (r := (0, 0, 0, 0)) (pc' := 1) (ls' := [some (.inl (some 52)), none, none, none]) (st' := [.inl (some 52)]) (by decide +kernel) (fun k q => by cases q) rfl ?_
  refine y_ic (c := 0) (len := 1) (r := (0, 0, 0, 0)) (by decide +kernel) (by decide) (fun y4329 hy4329 => ?_)
  refine y_put (j := 92) (lo := (-2147483648)) (hi := 2147483647) (len := 3) (r := (12, 0, 0, 1328)) (by decide +kernel) hg (t52 hg) at52 rfl rfl (by decide) rfl (qin_full _).1 (qin_full _).2 rfl (fun h4330 hg4330 hl4330 hs4330 ho4330 => ?_)
  have ho4330 : hO 52 0 h h4330 := ho4330
  have hs4330 : hsl h4330 52 0 = some (zi y4329) := hs4330
  refine y_same (i := .aload_n 0) (len := 1) (r := (0, 0, 0, 0)) (pc' := 6) (ls' := [some (.inl (some 52)), none, none, none]) (st' := [.inl (some 52)]) (by decide +kernel) (fun k q => by cases q) rfl ?_
  refine y_ic (c := 0) (len := 1) (r := (0, 0, 0, 0)) (by decide +kernel) (by decide) (fun y4331 hy4331 => ?_)
  refine y_cV (i := .invokevirtual 400) (len := 3) (r := (0, 238, 12, 1628)) (nL := 3) (k := 0) (n := 2) (hs := []) (args := [.inl (some 52), zi y4331]) (rest := []) (l0 := [some (.inl (some 52)), some (zi y4331), none]) (by decide +kernel) (Or.inr (Or.inl ⟨_, rfl⟩)) rfl rfl rfl rfl (Nat.le_of_ble_eq_true rfl) (z52 hg4330) rfl (qV_le (by omega) (m_pwz (d := 0) (b := b) (by omega) hg4330 (bsM_up bs (fun j => (ho4330 55 j (by omega)))) ok (np.elim (fun q => Or.inl (kx_up q ((ho4330 52 31 (by omega))))) (fun q => Or.inr ⟨kx_up q.1 ((ho4330 52 31 (by omega))), kx_up q.2 ((ho4330 52 32 (by omega)))⟩)))) (fun h4332 hR4332 => ?_)
  rw [hR9] at hR4332
  have o1 := hR4332
  obtain ⟨hg4332, ip1, iv1, rs, c26, l3, c29, dA, pE⟩ := hR4332
  refine y_lc0 (len := 1) (r := (0, 0, 0, 0)) (by decide +kernel) ?_
  refine y_same (i := .lstore_n 1) (len := 1) (r := (0, 0, 0, 0)) (pc' := 12) (ls' := [some (.inl (some 52)), some (.inr (.inr (.inl (Int64.ofNat 0)))), none, none]) (st' := []) (by decide +kernel) (fun k q => by cases q) rfl ?_
  refine y_ic (c := 0) (len := 1) (r := (0, 0, 0, 0)) (by decide +kernel) (by decide) (fun y4333 hy4333 => ?_)
  refine y_same (i := .istore_n 3) (len := 1) (r := (0, 0, 0, 0)) (pc' := 14) (ls' := [some (.inl (some 52)), some (.inr (.inr (.inl (Int64.ofNat 0)))), none, some (zi y4333)]) (st' := []) (by decide +kernel) (fun k q => by cases q) rfl ?_
  obtain ⟨xn, hn26, en26⟩ := c26
  obtain ⟨x9, k9, w9, h9, rfl, rfl, ew⟩ := sumM_l (d := d + 8) (t := t) (L := R.1) hg4332 hn26 en26 l3 (fun k e ke => (pE k e ke).1) (R.1.length + 1) 0 _ y4333 rfl (by omega) (by omega) (by omega)
  exact ⟨_, k9, w9, _, rfl, ew, o1⟩
