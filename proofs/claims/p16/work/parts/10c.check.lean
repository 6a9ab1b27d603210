theorem zcm224_0 : zckQ 224 0 6 zt224 = true := by decide +kernel
theorem zcm224_6 : zckQ 224 6 6 zt224 = true := by decide +kernel
theorem zcm224_12 : zckQ 224 12 2 zt224 = true := by decide +kernel
theorem zcm224 : zckT 224 zt224 = true := by
  refine zckT_of (n := 13) rfl (fun b hb => ?_)
  by_cases h0 : b < 6
  · exact zckQ_at zcm224_0 (by omega) (by omega)
  by_cases h6 : b < 12
  · exact zckQ_at zcm224_6 (by omega) (by omega)
  exact zckQ_at zcm224_12 (by omega) (by omega)
theorem zcm225_0 : zckQ 225 0 6 zt225 = true := by decide +kernel
theorem zcm225_6 : zckQ 225 6 6 zt225 = true := by decide +kernel
theorem zcm225_12 : zckQ 225 12 6 zt225 = true := by decide +kernel
theorem zcm225_18 : zckQ 225 18 2 zt225 = true := by decide +kernel
theorem zcm225 : zckT 225 zt225 = true := by
  refine zckT_of (n := 19) rfl (fun b hb => ?_)
  by_cases h0 : b < 6
  · exact zckQ_at zcm225_0 (by omega) (by omega)
  by_cases h6 : b < 12
  · exact zckQ_at zcm225_6 (by omega) (by omega)
  by_cases h12 : b < 18
  · exact zckQ_at zcm225_12 (by omega) (by omega)
  exact zckQ_at zcm225_18 (by omega) (by omega)
theorem zcm226 : zckT 226 zt226 = true := by decide +kernel
theorem zcm227 : zckT 227 zt227 = true := by decide +kernel
theorem zcm228_0 : zckQ 228 0 6 zt228 = true := by decide +kernel
theorem zcm228_6 : zckQ 228 6 6 zt228 = true := by decide +kernel
theorem zcm228_12 : zckQ 228 12 6 zt228 = true := by decide +kernel
theorem zcm228_18 : zckQ 228 18 1 zt228 = true := by decide +kernel
theorem zcm228 : zckT 228 zt228 = true := by
  refine zckT_of (n := 18) rfl (fun b hb => ?_)
  by_cases h0 : b < 6
  · exact zckQ_at zcm228_0 (by omega) (by omega)
  by_cases h6 : b < 12
  · exact zckQ_at zcm228_6 (by omega) (by omega)
  by_cases h12 : b < 18
  · exact zckQ_at zcm228_12 (by omega) (by omega)
  exact zckQ_at zcm228_18 (by omega) (by omega)
theorem zcm229 : zckT 229 zt229 = true := by decide +kernel
theorem zcm230_0 : zckQ 230 0 6 zt230 = true := by decide +kernel
theorem zcm230_6 : zckQ 230 6 6 zt230 = true := by decide +kernel
theorem zcm230_12 : zckQ 230 12 3 zt230 = true := by decide +kernel
theorem zcm230 : zckT 230 zt230 = true := by
  refine zckT_of (n := 14) rfl (fun b hb => ?_)
  by_cases h0 : b < 6
  · exact zckQ_at zcm230_0 (by omega) (by omega)
  by_cases h6 : b < 12
  · exact zckQ_at zcm230_6 (by omega) (by omega)
  exact zckQ_at zcm230_12 (by omega) (by omega)
theorem zcm231_0 : zckQ 231 0 6 zt231 = true := by decide +kernel
theorem zcm231_6 : zckQ 231 6 6 zt231 = true := by decide +kernel
theorem zcm231_12 : zckQ 231 12 2 zt231 = true := by decide +kernel
theorem zcm231 : zckT 231 zt231 = true := by
  refine zckT_of (n := 13) rfl (fun b hb => ?_)
  by_cases h0 : b < 6
  · exact zckQ_at zcm231_0 (by omega) (by omega)
  by_cases h6 : b < 12
  · exact zckQ_at zcm231_6 (by omega) (by omega)
  exact zckQ_at zcm231_12 (by omega) (by omega)
theorem zcm232 : zckT 232 zt232 = true := by decide +kernel
theorem zcm233_0 : zckQ 233 0 6 zt233 = true := by decide +kernel
theorem zcm233_6 : zckQ 233 6 6 zt233 = true := by decide +kernel
theorem zcm233_12 : zckQ 233 12 2 zt233 = true := by decide +kernel
theorem zcm233 : zckT 233 zt233 = true := by
  refine zckT_of (n := 13) rfl (fun b hb => ?_)
  by_cases h0 : b < 6
  · exact zckQ_at zcm233_0 (by omega) (by omega)
  by_cases h6 : b < 12
  · exact zckQ_at zcm233_6 (by omega) (by omega)
  exact zckQ_at zcm233_12 (by omega) (by omega)
theorem zcm234 : zckT 234 zt234 = true := by decide +kernel
theorem zcm235_0 : zckQ 235 0 6 zt235 = true := by decide +kernel
theorem zcm235_6 : zckQ 235 6 6 zt235 = true := by decide +kernel
theorem zcm235_12 : zckQ 235 12 1 zt235 = true := by decide +kernel
theorem zcm235 : zckT 235 zt235 = true := by
  refine zckT_of (n := 12) rfl (fun b hb => ?_)
  by_cases h0 : b < 6
  · exact zckQ_at zcm235_0 (by omega) (by omega)
  by_cases h6 : b < 12
  · exact zckQ_at zcm235_6 (by omega) (by omega)
  exact zckQ_at zcm235_12 (by omega) (by omega)
theorem zcm236 : zckT 236 zt236 = true := by decide +kernel
theorem zcm237 : zckT 237 zt237 = true := by decide +kernel
theorem zcm238_0 : zckQ 238 0 6 zt238 = true := by decide +kernel
theorem zcm238_6 : zckQ 238 6 6 zt238 = true := by decide +kernel
theorem zcm238_12 : zckQ 238 12 2 zt238 = true := by decide +kernel
theorem zcm238 : zckT 238 zt238 = true := by
  refine zckT_of (n := 13) rfl (fun b hb => ?_)
  by_cases h0 : b < 6
  · exact zckQ_at zcm238_0 (by omega) (by omega)
  by_cases h6 : b < 12
  · exact zckQ_at zcm238_6 (by omega) (by omega)
  exact zckQ_at zcm238_12 (by omega) (by omega)
theorem zcm239 : zckT 239 zt239 = true := by decide +kernel
theorem zck14 : zckG 14 = true := by
  refine List.all_eq_true.mpr (fun a ha => ?_)
  have ha : a < 16 := List.mem_range.mp ha
  match a, ha with
  | 0, _ => exact zcm224
  | 1, _ => exact zcm225
  | 2, _ => exact zcm226
  | 3, _ => exact zcm227
  | 4, _ => exact zcm228
  | 5, _ => exact zcm229
  | 6, _ => exact zcm230
  | 7, _ => exact zcm231
  | 8, _ => exact zcm232
  | 9, _ => exact zcm233
  | 10, _ => exact zcm234
  | 11, _ => exact zcm235
  | 12, _ => exact zcm236
  | 13, _ => exact zcm237
  | 14, _ => exact zcm238
  | 15, _ => exact zcm239
  | k + 16, h => exact absurd h (by omega)
theorem zcm288 : zckT 288 zt288 = true := by decide +kernel
theorem zcm289_0 : zckQ 289 0 6 zt289 = true := by decide +kernel
theorem zcm289_6 : zckQ 289 6 6 zt289 = true := by decide +kernel
theorem zcm289_12 : zckQ 289 12 6 zt289 = true := by decide +kernel
theorem zcm289_18 : zckQ 289 18 6 zt289 = true := by decide +kernel
theorem zcm289_24 : zckQ 289 24 6 zt289 = true := by decide +kernel
theorem zcm289_30 : zckQ 289 30 6 zt289 = true := by decide +kernel
theorem zcm289_36 : zckQ 289 36 6 zt289 = true := by decide +kernel
theorem zcm289_42 : zckQ 289 42 6 zt289 = true := by decide +kernel
theorem zcm289_48 : zckQ 289 48 5 zt289 = true := by decide +kernel
theorem zcm289 : zckT 289 zt289 = true := by
  refine zckT_of (n := 52) rfl (fun b hb => ?_)
  by_cases h0 : b < 6
  · exact zckQ_at zcm289_0 (by omega) (by omega)
  by_cases h6 : b < 12
  · exact zckQ_at zcm289_6 (by omega) (by omega)
  by_cases h12 : b < 18
  · exact zckQ_at zcm289_12 (by omega) (by omega)
  by_cases h18 : b < 24
  · exact zckQ_at zcm289_18 (by omega) (by omega)
  by_cases h24 : b < 30
  · exact zckQ_at zcm289_24 (by omega) (by omega)
  by_cases h30 : b < 36
  · exact zckQ_at zcm289_30 (by omega) (by omega)
  by_cases h36 : b < 42
  · exact zckQ_at zcm289_36 (by omega) (by omega)
  by_cases h42 : b < 48
  · exact zckQ_at zcm289_42 (by omega) (by omega)
  exact zckQ_at zcm289_48 (by omega) (by omega)
theorem zck18 : zckG 18 = true := by
  refine List.all_eq_true.mpr (fun a ha => ?_)
  have ha : a < 2 := List.mem_range.mp ha
  match a, ha with
  | 0, _ => exact zcm288
  | 1, _ => exact zcm289
  | k + 2, h => exact absurd h (by omega)
theorem zmok_all : ∀ mi, mi < 289 → zmok mi = true := by
  intro mi h
  by_cases h0 : mi < 8
  · have := zall_at zmo0 (k := mi - 0) (by omega)
    rw [show 0 + (mi - 0) = mi by omega] at this
    exact this
  by_cases h8 : mi < 16
  · have := zall_at zmo1 (k := mi - 8) (by omega)
    rw [show 8 + (mi - 8) = mi by omega] at this
    exact this
  by_cases h16 : mi < 24
  · have := zall_at zmo2 (k := mi - 16) (by omega)
    rw [show 16 + (mi - 16) = mi by omega] at this
    exact this
  by_cases h24 : mi < 32
  · have := zall_at zmo3 (k := mi - 24) (by omega)
    rw [show 24 + (mi - 24) = mi by omega] at this
    exact this
  by_cases h32 : mi < 40
  · have := zall_at zmo4 (k := mi - 32) (by omega)
    rw [show 32 + (mi - 32) = mi by omega] at this
    exact this
  by_cases h40 : mi < 48
  · have := zall_at zmo5 (k := mi - 40) (by omega)
    rw [show 40 + (mi - 40) = mi by omega] at this
    exact this
  by_cases h48 : mi < 56
  · have := zall_at zmo6 (k := mi - 48) (by omega)
    rw [show 48 + (mi - 48) = mi by omega] at this
    exact this
  by_cases h56 : mi < 64
  · have := zall_at zmo7 (k := mi - 56) (by omega)
    rw [show 56 + (mi - 56) = mi by omega] at this
    exact this
  by_cases h64 : mi < 72
  · have := zall_at zmo8 (k := mi - 64) (by omega)
    rw [show 64 + (mi - 64) = mi by omega] at this
    exact this
  by_cases h72 : mi < 80
  · have := zall_at zmo9 (k := mi - 72) (by omega)
    rw [show 72 + (mi - 72) = mi by omega] at this
    exact this
  by_cases h80 : mi < 88
  · have := zall_at zmo10 (k := mi - 80) (by omega)
    rw [show 80 + (mi - 80) = mi by omega] at this
    exact this
  by_cases h88 : mi < 96
  · have := zall_at zmo11 (k := mi - 88) (by omega)
    rw [show 88 + (mi - 88) = mi by omega] at this
    exact this
  by_cases h96 : mi < 104
  · have := zall_at zmo12 (k := mi - 96) (by omega)
    rw [show 96 + (mi - 96) = mi by omega] at this
    exact this
  by_cases h104 : mi < 112
  · have := zall_at zmo13 (k := mi - 104) (by omega)
    rw [show 104 + (mi - 104) = mi by omega] at this
    exact this
  by_cases h112 : mi < 120
  · have := zall_at zmo14 (k := mi - 112) (by omega)
    rw [show 112 + (mi - 112) = mi by omega] at this
    exact this
  by_cases h120 : mi < 128
  · have := zall_at zmo15 (k := mi - 120) (by omega)
    rw [show 120 + (mi - 120) = mi by omega] at this
    exact this
  by_cases h128 : mi < 136
  · have := zall_at zmo16 (k := mi - 128) (by omega)
    rw [show 128 + (mi - 128) = mi by omega] at this
    exact this
  by_cases h136 : mi < 144
  · have := zall_at zmo17 (k := mi - 136) (by omega)
    rw [show 136 + (mi - 136) = mi by omega] at this
    exact this
  by_cases h144 : mi < 152
  · have := zall_at zmo18 (k := mi - 144) (by omega)
    rw [show 144 + (mi - 144) = mi by omega] at this
    exact this
  by_cases h152 : mi < 160
  · have := zall_at zmo19 (k := mi - 152) (by omega)
    rw [show 152 + (mi - 152) = mi by omega] at this
    exact this
  by_cases h160 : mi < 168
  · have := zall_at zmo20 (k := mi - 160) (by omega)
    rw [show 160 + (mi - 160) = mi by omega] at this
    exact this
  by_cases h168 : mi < 176
  · have := zall_at zmo21 (k := mi - 168) (by omega)
    rw [show 168 + (mi - 168) = mi by omega] at this
    exact this
  by_cases h176 : mi < 184
  · have := zall_at zmo22 (k := mi - 176) (by omega)
    rw [show 176 + (mi - 176) = mi by omega] at this
    exact this
  by_cases h184 : mi < 192
  · have := zall_at zmo23 (k := mi - 184) (by omega)
    rw [show 184 + (mi - 184) = mi by omega] at this
    exact this
  by_cases h192 : mi < 200
  · have := zall_at zmo24 (k := mi - 192) (by omega)
    rw [show 192 + (mi - 192) = mi by omega] at this
    exact this
  by_cases h200 : mi < 208
  · have := zall_at zmo25 (k := mi - 200) (by omega)
    rw [show 200 + (mi - 200) = mi by omega] at this
    exact this
  by_cases h208 : mi < 216
  · have := zall_at zmo26 (k := mi - 208) (by omega)
    rw [show 208 + (mi - 208) = mi by omega] at this
    exact this
  by_cases h216 : mi < 224
  · have := zall_at zmo27 (k := mi - 216) (by omega)
    rw [show 216 + (mi - 216) = mi by omega] at this
    exact this
  by_cases h224 : mi < 232
  · have := zall_at zmo28 (k := mi - 224) (by omega)
    rw [show 224 + (mi - 224) = mi by omega] at this
    exact this
  by_cases h232 : mi < 240
  · have := zall_at zmo29 (k := mi - 232) (by omega)
    rw [show 232 + (mi - 232) = mi by omega] at this
    exact this
  by_cases h240 : mi < 248
  · have := zall_at zmo30 (k := mi - 240) (by omega)
    rw [show 240 + (mi - 240) = mi by omega] at this
    exact this
  by_cases h248 : mi < 256
  · have := zall_at zmo31 (k := mi - 248) (by omega)
    rw [show 248 + (mi - 248) = mi by omega] at this
    exact this
  by_cases h256 : mi < 264
  · have := zall_at zmo32 (k := mi - 256) (by omega)
    rw [show 256 + (mi - 256) = mi by omega] at this
    exact this
  by_cases h264 : mi < 272
  · have := zall_at zmo33 (k := mi - 264) (by omega)
    rw [show 264 + (mi - 264) = mi by omega] at this
    exact this
  by_cases h272 : mi < 280
  · have := zall_at zmo34 (k := mi - 272) (by omega)
    rw [show 272 + (mi - 272) = mi by omega] at this
    exact this
  by_cases h280 : mi < 288
  · have := zall_at zmo35 (k := mi - 280) (by omega)
    rw [show 280 + (mi - 280) = mi by omega] at this
    exact this
  have := zall_at zmo36 (k := mi - 288) (by omega)
  rw [show 288 + (mi - 288) = mi by omega] at this
  exact this
theorem zck_all : ∀ G : Nat, zckG G = true
  | 0 => zck0
  | 1 => zck1
  | 2 => zck2
  | 3 => zck3
  | 4 => zck4
  | 5 => zck5
  | 6 => zck6
  | 7 => zck7
  | 8 => zck8
  | 9 => zck9
  | 10 => zck10
  | 11 => zck11
  | 12 => zck12
  | 13 => zck13
  | 14 => zck14
  | 15 => zck15
  | 16 => zck16
  | 17 => zck17
  | 18 => zck18
  | k + 19 => by
    show (match zcodes[k + 19]? with
      | some g => (List.range g.length).all (fun a => match g[a]? with
        | some t => zckT (16 * (k + 19) + a) t
        | none => true)
      | none => true) = true
    have h : zcodes[k + 19]? = none := List.getElem?_eq_none (by show 19 ≤ k + 19; omega)
    rw [h]
/-- every row that is read is right -/
theorem zfetch_ok {mi pc : Nat} {o : zop} (h : zfetch mi pc = some o) : ∃ M : zmrow, zmd mi = some M ∧ zckO mi pc M o = true := by
  unfold zfetch at h
  simp only [nth_eq] at h
  cases hg : zcodes[mi / 16]? with
  | none => rw [hg] at h; cases h
  | some g =>
    rw [hg] at h
    simp only at h
    cases ht : g[mi % 16]? with
    | none => rw [ht] at h; cases h
    | some t =>
      rw [ht] at h
      simp only at h
      cases hc : t[pc / 16]? with
      | none => rw [hc] at h; cases h
      | some c =>
        rw [hc] at h
        simp only at h
        cases ho : c[pc % 16]? with
        | none => rw [ho] at h; cases h
        | some o' =>
          rw [ho] at h
          have h : o' = some o := h
          subst h
          have h1 := zck_all (mi / 16)
          unfold zckG at h1
          rw [hg] at h1
          have h2 := zall_at h1 (List.getElem?_eq_some_iff.mp ht).1
          simp only [ht] at h2
          rw [show 16 * (mi / 16) + mi % 16 = mi by omega] at h2
          unfold zckT at h2
          cases hM : zmd mi with
          | none => rw [hM] at h2; cases h2
          | some M =>
            rw [hM] at h2
            have h3 := zall_at h2 (List.getElem?_eq_some_iff.mp hc).1
            simp only [hc] at h3
            unfold zckC at h3
            have h4 := zall_at h3 (List.getElem?_eq_some_iff.mp ho).1
            simp only [ho] at h4
            rw [show 16 * (pc / 16) + pc % 16 = pc by omega] at h4
            exact ⟨M, rfl, h4⟩
