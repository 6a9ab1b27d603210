theorem zrm8 (d mc ms : Nat) : 8 ≤ (zrm (d + 1) mc ms).frames := by
  have e : (zrm (d + 1) mc ms).frames = d + 8 := rfl
  rw [e]
  exact Nat.le_add_left _ _
theorem zrm320 (d mc ms : Nat) : 320 ≤ (zrm (d + 1) mc ms).locals := by
  have e : (zrm (d + 1) mc ms).locals = 64 * (d + 5) := rfl
  rw [e]
  exact Nat.mul_le_mul_left 64 (Nat.le_add_left 5 d)
theorem zmrows {mj : Nat} {M : zmrow} (hlt : mj < 289) (hM : zmd mj = some M) : ∃ (nL rk na : Nat) (hs : List (Nat × Nat × Nat × Nat)), zmeth mj = some (nL, rk, na, hs) := by
  have h := zmok_all mj hlt
  unfold zmok at h
  rw [hM] at h
  cases hm : zmeth mj with
  | none => rw [hm] at h; cases h
  | some q =>
    obtain ⟨a, b, c, d⟩ := q
    exact ⟨a, b, c, d, rfl⟩
section ZCon
variable {p : Program} {l : Launch} {e : Env} {R : Room} {s : State} {m : MethodId} {args : Array Value} {below : List Frame} {meth : Method} {c : Code} {g : zg} {D : va_G} {A : Nat → Prop} {M : zmrow} {mj sz t t' : Nat} {o : zo} {h h' : zh} {ws : va_W}
theorem zEnd_ret {v : Option zv} (ho : o = .inl v) (hx : p.tables.exec = Jvm.exec) (hb : c.code = M.2.1) (hlocks : meth.locks = false) (hret : meth.sig.returnType = M.2.2.2.1) (hrk : ∀ (n1 n2 n3 : Nat) (hs : List (Nat × Nat × Nat × Nat)), zmeth mj = some (n1, n2, n3, hs) → zrk n2 M.2.2.2.1 = true) : zEnd p l e R s m args below meth c (MQ below (zQc g D ws h' sz o) args s ((h'.length + t') - (h.length + t)) ((zsl h' + 6 * t') - (zsl h + 6 * t)) (va_A ws sz)) g D (va_A ws sz) M.2.1 mj M.2.2.1 o h' t' 0 0 ws h t := by
  refine ⟨fun H' locs' cells' slots' ws' la' pc' vs' hm hW hS hc hs hfin => ?_, fun ee H' locs' cells' slots' ws' la' pc' ho' => ?_, fun ee H' locs' cells' slots' ws' la' pc' rest q ce n1 n2 n3 hs9 ho' => ?_⟩
  · have h1 : cells' = (h'.length + t') - (h.length + t) := by omega
    have h2 : slots' = (zsl h' + 6 * t') - (zsl h + 6 * t) := by omega
    rw [h1, h2]
    exact zretE hx hb hlocks hret hrk hS.2.2 hfin (fun vv hR T ht hWm => ⟨⟨vv, ws', rfl, hR, hm, by rw [ht]; exact zW_back hW (fun _ h => h) hWm.alike⟩, hS.F ht⟩)
  · rw [ho] at ho'; cases ho'
  · rw [ho] at ho'; cases ho'
theorem zEnd_thr (hF : zFr p s m args meth c M.2.1 M.1.cls M.1.name g none D (va_A ws sz)) (hB : zB s) (hl : l.stackTraces = false) (hM : zmd mj = some M) (hml : c.maxLocals = M.2.2.1) (hlocks : meth.locks = false) (hret : meth.sig.returnType = M.2.2.2.1) (htab : c.exceptionTable.toList = tableOf M.2.2.2.2.1) (hrk : ∀ (n1 n2 n3 : Nat) (hs : List (Nat × Nat × Nat × Nat)), zmeth mj = some (n1, n2, n3, hs) → zrk n2 M.2.2.2.1 = true) (hhk : ∀ (n1 n2 n3 : Nat) (hs : List (Nat × Nat × Nat × Nat)), zmeth mj = some (n1, n2, n3, hs) → zhok M.1.cls M.2.2.2.2.1 hs = true) (hfr : 8 ≤ R.frames) (hlo : 320 ≤ R.locals) (hRc : (h'.length + t') - (h.length + t) ≤ R.cells) (hRs : (zsl h' + 6 * t') - (zsl h + 6 * t) ≤ R.slots) : zEnd p l e R s m args below meth c (vx_MQ below (zQc g D ws h' sz o) (zXC g D ws h' sz o) args s ((h'.length + t') - (h.length + t)) ((zsl h' + 6 * t') - (zsl h + 6 * t)) (va_A ws sz)) g D (va_A ws sz) M.2.1 mj M.2.2.1 o h' t' 0 0 ws h t := by
  obtain ⟨hx, hb, hown, hts, hnm, hE, hA⟩ := hF
  refine ⟨fun H' locs' cells' slots' ws' la' pc' vs' hm hW hS hc hs hfin => ?_, fun ee H' locs' cells' slots' ws' la' pc' ho hsz h9 hm hW hS hc hs => ?_, fun ee H' locs' cells' slots' ws' la' pc' rest q ce n1 n2 n3 hs9 ho hle hmt hh hm hW hS hc hs hq hv hcl => ?_⟩
  · have h1 : cells' = (h'.length + t') - (h.length + t) := by omega
    have h2 : slots' = (zsl h' + 6 * t') - (zsl h + 6 * t) := by omega
    rw [h1, h2]
    exact vx_ret (zretE hx hb hlocks hret hrk hS.2.2 hfin (fun vv hR T ht hWm => ⟨⟨vv, ws', rfl, hR, hm, by rw [ht]; exact zW_back hW (fun _ h => h) hWm.alike⟩, hS.F ht⟩))
  · obtain ⟨-, -, -, -, -, -, ⟨r1, r2, r3, r4⟩, -⟩ := hE
    rcases h9 with ⟨rfl, rfl, rfl⟩ | ⟨rfl, rfl, rfl⟩
    · have hz := z9c0
      unfold z9c at hz
      rw [hM] at hz
      simp only [Bool.and_eq_true, decide_eq_true_eq] at hz
      obtain ⟨⟨d0, d3⟩, ⟨d4, d6⟩, ⟨d9, hcls⟩, hhh⟩ := hz
      rw [List.isEmpty_iff.mp hhh] at htab
      rw [hcls] at hown
      exact zown9 hx hb hown hts hB hl znse zfits.1 z9k0 z9w0 r1 r3 r4 hS hlocks (hsz.trans hml.symm) htab d0 d3 d4 d6 d9 hfr hlo (by omega) (by omega) hRc hRs hS.2.2 (fun H1 h4 h5 T ht ha => ⟨⟨0, ws', ho, rfl, by omega, hm, by rw [ht]; exact zW_back (zW_ext hW h5) (fun _ h => h) ha⟩, (zS_ext hS h4 h5).F ht⟩)
    · have hz := z9c1
      unfold z9c at hz
      rw [hM] at hz
      simp only [Bool.and_eq_true, decide_eq_true_eq] at hz
      obtain ⟨⟨d0, d3⟩, ⟨d4, d6⟩, ⟨d9, hcls⟩, hhh⟩ := hz
      rw [List.isEmpty_iff.mp hhh] at htab
      rw [hcls] at hown
      exact zown9 hx hb hown hts hB hl ziae zfits.2.1 z9k1 z9w1 r2 r3 r4 hS hlocks (hsz.trans hml.symm) htab d0 d3 d4 d6 d9 hfr hlo (by omega) (by omega) hRc hRs hS.2.2 (fun H1 h4 h5 T ht ha => ⟨⟨1, ws', ho, rfl, by omega, hm, by rw [ht]; exact zW_back (zW_ext hW h5) (fun _ h => h) ha⟩, (zS_ext hS h4 h5).F ht⟩)
  · refine vx_outP hown hlocks (fun z hz => ?_) hq hv hcl (fun T ht ha => ⟨⟨ee, ws', ho, rfl, hle, hm, by rw [ht]; exact zW_back hW (fun _ h => h) ha⟩, hS.F ht⟩) hS.2.2 (by omega) (by omega)
    rw [htab] at hz
    rcases zhand_none (hhk _ _ _ _ hmt) hh z hz with h7 | ⟨h7, e7, h6, h5, h4⟩
    · exact Or.inl h7
    · exact Or.inr ⟨h7, zEn e7, hts _ h4, zNcE hE hle h5 h6⟩
/-- a method's body from its first place on -/
theorem zbody {Q : State → Prop} {nn d : Nat} {As : List Value} {args' : List zv} {l0 : List (Option zv)} (hF : zFr p s m args meth c M.2.1 M.1.cls M.1.name g none D (va_A ws sz)) (hB : zB s) (hM : zmd mj = some M) (hml : c.maxLocals = M.2.2.1) (htab : c.exceptionTable.toList = tableOf M.2.2.2.2.1) (hhk : ∀ (n1 n2 n3 : Nat) (hs : List (Nat × Nat × Nat × Nat)), zmeth mj = some (n1, n2, n3, hs) → zhok M.1.cls M.2.2.2.2.1 hs = true) (hcon : zCon l d (zrun nn d)) (hfr : d + 8 ≤ R.frames) (hlo : 64 * (d + 5) ≤ R.locals) (hrc : (h'.length + t') - (h.length + t) ≤ R.cells) (hrs : (zsl h' + 6 * t') - (zsl h + 6 * t) ≤ R.slots) (hent : zent args' M.2.2.1 = some l0) (hSa : zS (zX g) ws args' As) (hargs : args = As.toArray) (hW : zW (zX g) D (va_A ws sz) s s.heap ws h) (er : zrun nn (d + 1) mj l0 h t = some (o, h', t')) (k : zEnd p l e R s m args below meth c Q g D (va_A ws sz) M.2.1 mj M.2.2.1 o h' t' 0 0 ws h t) : W p l e R s m args below meth c s.heap [] 0 0 Q (entryFrame m args M.2.2.1) := by
  obtain ⟨hcat, hL⟩ := zent_ok zX_ref hent hSa
  have e1 : entryFrame m args M.2.2.1 = F0 m 0 ((As.map Slot.val ++ List.replicate (M.2.2.1 - As.length) Slot.unset).toArray) [] := by
    rw [hargs]
    exact entry_eq m As hcat M.2.2.1
  rw [e1]
  have er : zloop none (zrun nn d) nn mj 0 l0 [] h t = some (o, h', t') := er
  exact zwalk hF hB hM hml htab hhk hcon (zrun_mono nn d) hfr hlo nn 0 l0 [] h t o h' t' er s.heap [] 0 0 ws _ [] hW va_S.rf hL trivial (by omega) (by omega) k
end ZCon
theorem zCon_all {l : Launch} (hl : l.stackTraces = false) (nn : Nat) : ∀ d : Nat, zCon l d (zrun nn d)
  | 0 => fun mj l0 h t o h' t' er => (by cases er)
  | d + 1 => by
    have IH := zCon_all hl nn d
    intro mj l0 h t o h' t' er hlt M hM args' hent g D ws As sz hSa
    obtain ⟨n1, n2, n3, hs, hmt⟩ := zmrows hlt hM
    obtain ⟨q1, q2, q3, q4, q5, q6, q7, q8, q9⟩ := zmok_inv hlt hM hmt
    have hrk : ∀ (a1 a2 a3 : Nat) (hs9 : List (Nat × Nat × Nat × Nat)), zmeth mj = some (a1, a2, a3, hs9) → zrk a2 M.2.2.2.1 = true := by
      intro a1 a2 a3 hs9 h9
      rw [hmt] at h9
      cases h9
      exact q8
    have hhk : ∀ (a1 a2 a3 : Nat) (hs9 : List (Nat × Nat × Nat × Nat)), zmeth mj = some (a1, a2, a3, hs9) → zhok M.1.cls M.2.2.2.2.1 hs9 = true := by
      intro a1 a2 a3 hs9 h9
      rw [hmt] at h9
      cases h9
      exact q6
    have frame : ∀ (p : Program) (e : Env) (s : State) (m : MethodId) (args : Array Value) (below : List Frame) (meth : Method) (c : Code) (s₁ : State) (rm : Room), BodyLoose p l M.1 (headSpec (zws M) rm) M.2.1 M.2.2.1 M.2.2.2.1 e s m args below meth c s₁ → zPc g D ws h As sz args s → zFr p s m args meth c M.2.1 M.1.cls M.1.name g none D (va_A ws sz) := by
      intro p e s m args below meth c s₁ rm B hP
      obtain ⟨p1, p2, p3, p4, p5⟩ := hP
      exact ⟨B.exec, B.bytes, findClass_of_methodNamed B.named, fun w hw => atoms_spec (ws := zws M) B.pre w (List.mem_cons_of_mem _ hw), (name_of_methodNamed B.named B.method).1, p4, fun q hq => Or.inr (by rw [← p2]; exact hq)⟩
    refine ⟨fun v ho hh => ?_, fun hh hpn => ?_, fun hh => ?_⟩
    · refine va_MetF (ws' := zGd) (cc := M.2.1) (maxL := M.2.2.1) (ret := M.2.2.2.1) q3 (by show zwsM M :: zGd = _; rw [zwsM_nil hh]) (fun p e s m args below meth c s₁ B hml hP => ?_)
      have hF := frame p e s m args below meth c s₁ _ B hP
      obtain ⟨p1, p2, p3, p4, p5⟩ := hP
      have htab : c.exceptionTable.toList = tableOf M.2.2.2.2.1 := by
        obtain ⟨meth9, c9, h1, h2, -, -, -, -, h7, -⟩ := Cond.code_spec B.named (atoms_spec (ws := zws M) B.pre _ (by rw [← zwsM_nil hh]; exact List.mem_cons_self))
        cases Option.some.inj (h1.symm.trans B.method)
        cases Option.some.inj (h2.symm.trans (Stand.of_body B).code)
        rw [Array.isEmpty_iff.mp h7, hh]
        rfl
      exact zbody (R := zrm (d + 1) ((h'.length + t') - (h.length + t)) ((zsl h' + 6 * t') - (zsl h + 6 * t))) hF p5 hM hml htab hhk IH (Nat.le_refl _) (Nat.le_refl _) (Nat.le_refl _) (Nat.le_refl _) hent hSa p1 p3 er (zEnd_ret ho B.exec B.bytes B.notSynchronized B.returns hrk)
    · refine vx_ofW (ws' := zGd) (cc := M.2.1) (maxL := M.2.2.1) (ret := M.2.2.2.1) hpn (by show zwsM M :: zGd = _; rw [zwsM_nil hh]) (fun p e s m args below meth c s₁ B hml ht hP => ?_)
      have hF := frame p e s m args below meth c s₁ _ B hP
      obtain ⟨p1, p2, p3, p4, p5⟩ := hP
      have htab : c.exceptionTable.toList = tableOf M.2.2.2.2.1 := by
        rw [hh]
        exact List.eq_nil_iff_forall_not_mem.mpr (fun x hx => ht x hx)
      exact zbody (R := zrm (d + 1) ((h'.length + t') - (h.length + t)) ((zsl h' + 6 * t') - (zsl h + 6 * t))) hF p5 hM hml htab hhk IH (Nat.le_refl _) (Nat.le_refl _) (Nat.le_refl _) (Nat.le_refl _) hent hSa p1 p3 er (zEnd_thr hF p5 hl hM hml B.notSynchronized B.returns htab hrk hhk (zrm8 d _ _) (zrm320 d _ _) (Nat.le_refl _) (Nat.le_refl _))
    · have hpn : plainName M.1.cls = true := by
        rcases q4 with q4 | q4
        · exact absurd q4 hh
        · exact q4
      refine vx_ofWH (ws' := zGd) (cc := M.2.1) (maxL := M.2.2.1) (ret := M.2.2.2.1) (hh := M.2.2.2.2.1) hpn (by show zwsM M :: zGd = _; rw [zwsM_cons hh]) (fun p e s m args below meth c s₁ B hml hP => ?_)
      have hF := frame p e s m args below meth c s₁ _ B hP
      obtain ⟨p1, p2, p3, p4, p5⟩ := hP
      have htab : c.exceptionTable.toList = tableOf M.2.2.2.2.1 := vx_table (x := M.1) B (atoms_spec (ws := zws M) B.pre _ (by rw [← zwsM_cons hh]; exact List.mem_cons_self))
      exact zbody (R := zrm (d + 1) ((h'.length + t') - (h.length + t)) ((zsl h' + 6 * t') - (zsl h + 6 * t))) hF p5 hM hml htab hhk IH (Nat.le_refl _) (Nat.le_refl _) (Nat.le_refl _) (Nat.le_refl _) hent hSa p1 p3 er (zEnd_thr hF p5 hl hM hml B.notSynchronized B.returns htab hrk hhk (zrm8 d _ _) (zrm320 d _ _) (Nat.le_refl _) (Nat.le_refl _))
