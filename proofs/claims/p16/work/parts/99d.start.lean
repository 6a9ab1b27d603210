/-! THE CLAIM OUT OF ONE WALK OF THE LAW'S BODY. Your part is whole_start (and what it stands on); all else here is the same for every law, but numbers. -/
def R_law : String := "HeapJudgeLaw"
def lw_P (b : Addr) (xs : List Int32) (args : Array Value) (s : State) : Prop := args = #[.ref b] ∧ s.IntsAt b xs ∧ xs.length ≤ 3072 ∧ (Jvm.Cond.and given_1 narrow_1).before args s = true
def lw_Q (_ : Array Value) (s : State) (o : Outcome) (t : State) : Prop := o = .returned (some (.int 1)) ∧ Framed s o t [] 601024 7293034
def lw_Z (below : List Frame) (a : Array Value) (s : State) : State → Prop := fun t => ∃ o, t.status = .running ∧ Ended t below o ∧ lw_Q a s o t
/-- the law's own end, with 1 on the stack, nothing written that was there before, its room as the claim has it -/
theorem lw_ret {p : Program} {l : Launch} {e : Env} {s : State} {m : MethodId} {below : List Frame} {meth : Method} {c : Code} {b : Nat} (hx : p.tables.exec = Jvm.exec) (hb : c.code = code) (hr : meth.sig.returnType = ret) (hlocks : meth.locks = false) {pc : Nat} {H : Heap} {ls : Array Slot} (hdg : decode code pc = .ok (.ireturn, 1)) : W p l e room_1 s m #[Value.ref b] below meth c H [] 601024 7293034 (lw_Z below #[Value.ref b] s) (F0 m pc ls [.int 1]) := by
  intro T hT X
  obtain ⟨fs, hret, hrun, hended, hW, hframe⟩ := X.leave (v := some (.int 1)) (hlocks := hlocks) (fun h => by rw [hr] at h; cases h)
  have hmeth' : T.vm.method? m = some meth := X.method'
  refine ⟨T.setFrames fs, ?_, .returned (some (.int 1)), hrun, hended, rfl, ⟨_, rfl⟩, hW, hframe⟩
  jvm_step X.here [X.here.top, hx, hb, hdg, hmeth', hr, ret, narrow_b1]
  (try refine ⟨rfl, ?_⟩); (try refine ⟨rfl, ?_⟩)
  first | (intro acts; rw [hret _ acts rfl rfl rfl]) | rw [hret _ _ rfl rfl rfl]
  exact Steps.refl _
/-- what holds at the law's entry: the machine, the code, the tables' words (any of lw_tbl by 'hts w (by decide +kernel)'), the script of L ints xs at the cell b, what the Statement gives of the start (any of its parts by flat_of_before) -/
def lw_At (p : Program) (s : State) (m : MethodId) (meth : Method) (c : Code) (b L : Nat) (xs : Nat → Int32) : Prop :=
  p.tables.exec = Jvm.exec ∧ c.code = code ∧ meth.sig.returnType = ret ∧ c.maxLocals = 7 ∧ s.vm.findClass R_law = some m.cls ∧ (∀ w ∈ lw_tbl, w.before #[Value.ref b] s = true) ∧ va_X b L xs s s.heap ∧ b < s.heap.size ∧ meth.locks = false ∧ (Jvm.Cond.and given_1 narrow_1).before #[Value.ref b] s = true ∧ meth.name = yL_law.name ∧ c.exceptionTable.toList = []
/-! what the start gives: words of the tables, texts, statics -/
noncomputable def zF1 : List Cond := flatC (Jvm.Cond.and given_1 narrow_1)
noncomputable def zsokT (tm : Term) (n : Nat) (bs : List Int32) : Bool := decide ((.exactly tm "java/lang/String" : Cond) ∈ zF1) && (decide ((.eq (.field tm "java/lang/String" "coder" "B") (.int 0) : Cond) ∈ zF1) && (decide ((.arrayOf (.field tm "java/lang/String" "value" "[B") .byte : Cond) ∈ zF1) && (decide ((.eq (.length (.field tm "java/lang/String" "value" "[B")) (.int (Int32.ofNat n)) : Cond) ∈ zF1) && ((List.range n).all (fun j => decide ((.eq (.elem (.field tm "java/lang/String" "value" "[B") (.int (Int32.ofNat j))) (.int (bs.getD j 0)) : Cond) ∈ zF1)) && Nat.ble n 1000))))
noncomputable def zsok (i : Nat) : Bool := match zstrs[i]? with
  | some (o, k, tx) => zsokT (.string o k) (zslen.getD i 0) (zsbyt.getD i []) && decide (Cond.stringRef o k tx ∈ lw_tbl)
  | none => false
theorem zsok_all : (List.range 22).all zsok = true := by decide +kernel
theorem zmsg_ok : (decide ((.exactly (.string "HeapJudge" 228) "java/lang/String" : Cond) ∈ zF1) && decide ((.exactly (.string "HeapJudge" 235) "java/lang/String" : Cond) ∈ zF1)) = true := by decide +kernel
theorem zmsg_t : Cond.stringRef "HeapJudge" 228 "there is no such thing" ∈ lw_tbl ∧ Cond.stringRef "HeapJudge" 235 "a number that can't be" ∈ lw_tbl := by decide +kernel
theorem zst_f : (.isRef (.static Bundle.tN "UNASSIGNED_STACK" Bundle.steD) : Cond) ∈ zF1 ∧ (.isRef (.static Bundle.tN "SUPPRESSED_SENTINEL" Bundle.listD) : Cond) ∈ zF1 ∧ (.eq (.static "java/lang/String" "COMPACT_STRINGS" "Z") (.int 1) : Cond) ∈ zF1 ∧ (.isRef (.static "jdk/internal/util/Preconditions" "SIOOBE_FORMATTER" "Ljava/util/function/BiFunction;") : Cond) ∈ zF1 ∧ (.not (.castable "java/util/NoSuchElementException" "java/lang/IllegalArgumentException") : Cond) ∈ zF1 ∧ (.not (.castable "java/lang/IllegalArgumentException" "java/util/NoSuchElementException") : Cond) ∈ zF1 := by decide +kernel
theorem zst_t : Cond.laysStatic Bundle.tN "UNASSIGNED_STACK" Bundle.steD ∈ lw_tbl ∧ Cond.laysStatic Bundle.tN "SUPPRESSED_SENTINEL" Bundle.listD ∈ lw_tbl ∧ Cond.initialized Bundle.tN ∈ lw_tbl ∧ Cond.laysStatic "java/lang/String" "COMPACT_STRINGS" "Z" ∈ lw_tbl ∧ Cond.initialized "java/lang/String" ∈ lw_tbl ∧ Cond.laysStatic "jdk/internal/util/Preconditions" "SIOOBE_FORMATTER" "Ljava/util/function/BiFunction;" ∈ lw_tbl ∧ Cond.initialized "jdk/internal/util/Preconditions" ∈ lw_tbl := by decide +kernel
theorem zao_t : Cond.arrayOver (.object "HeapJudge$Sides") ∈ lw_tbl ∧ Cond.arrayOver (.object "HeapJudge$Sequent") ∈ lw_tbl ∧ Cond.arrayOver (.array .int) ∈ lw_tbl := by decide +kernel
theorem zbw_t : ∀ w ∈ zBw, w ∈ lw_tbl := by decide +kernel
theorem zinst_t : ∀ q ∈ vwCl.map (fun q => (q.1, q.2.2)), Cond.instantiable q.1 q.2 ∈ zGd := by decide +kernel
theorem zmeth_law : (match zmeth 289 with
  | some (_, _, _, []) => true
  | _ => false) = true := by decide +kernel
theorem zvk1 {n : List Nat} {bs : List (List Int32)} {adK adV : Nat → Nat} {A : Nat → Prop} {s : State} {H : Heap} (h : vk_S 1 n bs adK adV A s H) : vk_S 1 n bs (fun _ => adK 0) (fun _ => adV 0) A s H := by
  refine ⟨fun i hi => ?_, fun i j hi hj _ => by omega⟩
  have h0 : i = 0 := by omega
  subst h0
  exact h.1 0 hi
section ZStart
variable {s : State} {args : Array Value} {A : Nat → Prop}
/-- one text -/
theorem zstr1 {o tx : String} {k n : Nat} {bs : List Int32} (hF : ∀ w ∈ zF1, w.before args s = true) (hA : ∀ a : Nat, a < s.heap.size → ¬ A a) (hk : zsokT (.string o k) n bs = true) (hs : (Cond.stringRef o k tx).before args s = true) : ∃ q : Nat × Nat, vk_S 1 [n] [bs] (fun _ => q.1) (fun _ => q.2) A s s.heap ∧ vk_R o k tx q.1 s := by
  unfold zsokT at hk
  simp only [Bool.and_eq_true, decide_eq_true_eq] at hk
  obtain ⟨k1, k2, k3, k4, k5, k6⟩ := hk
  have k6 := Nat.le_of_ble_eq_true k6
  obtain ⟨adK, adV, h1, h2⟩ := vk_Sof (args := args) (s := s) (N := 1) (tm := fun _ => .string o k) (len := [n]) (byt := [bs]) (A := A)
    (fun i hi => by
      have h0 : i = 0 := by omega
      subst h0
      exact Nat.lt_of_le_of_lt k6 (by decide))
    (fun i hi => hF _ (k1)) (fun i hi => hF _ (k2)) (fun i hi => hF _ (k3))
    (fun i hi => by
      have h0 : i = 0 := by omega
      subst h0
      exact hF _ (k4))
    (fun i hi j hj => by
      have h0 : i = 0 := by omega
      subst h0
      exact hF _ (of_decide_eq_true (zall_at k5 hj)))
    (fun i j hi hj hne => absurd (show i = j by omega) hne) hA
  exact ⟨(adK 0, adV 0), zvk1 h1, vk_R.of hs (h2 0 Nat.zero_lt_one)⟩
theorem zmsg1 {o tx : String} {k : Nat} (hx : (Cond.exactly (.string o k) "java/lang/String").before args s = true) (hs : (Cond.stringRef o k tx).before args s = true) : ∃ q : Nat, vk_R o k tx q s := by
  obtain ⟨a, c, cA, kA, q1, -⟩ := Cond.exactly_spec (args := args) (first := s) (o := none) (s := s) (idx := []) (t := .string o k) (cls := "java/lang/String") hx
  exact ⟨a, vk_R.of hs q1⟩
/-- all that the walk wants of the start -/
theorem zstart {b L : Nat} {xs : Nat → Int32} {scr : List zv} (hts : ∀ w ∈ lw_tbl, w.before args s = true) (hgv : (Jvm.Cond.and given_1 narrow_1).before args s = true) (hX : va_X b L xs s s.heap) (hb : b < s.heap.size) (hsc : ∀ X : Nat → Value → Prop, scr.length = L ∧ ∀ (i : Nat) (a : zv), scr[i]? = some a → zval X [] a (.int (xs i))) : zB s ∧ ∃ (g : zg) (D : va_G), g.1 = b ∧ zE g (some scr) D (fun q => s.heap.size ≤ q) s := by
  have hF : ∀ w ∈ zF1, w.before args s = true := flat_of_before _ hgv
  have hA : ∀ a : Nat, a < s.heap.size → ¬ s.heap.size ≤ a := fun a h1 h2 => by omega
  have hG : ∀ w ∈ zGd, w.before args s = true := fun w hw => hts w (List.mem_filter.mp hw).1
  have hB : zB s := by
    intro w hw
    refine va_Nw.of ?_ (hts w (zbw_t w hw))
    unfold zBw at hw
    simp only [List.mem_cons, List.not_mem_nil, or_false] at hw
    rcases hw with rfl | rfl | rfl | rfl | rfl <;> rfl
  have hK : ∀ ci : Nat, ∃ w : ClassId × (Nat → Nat), ∀ q : vw_C, vwCl[ci]? = some q → u_Kn s q.1 q.2.1 q.2.2 w.1 w.2 := by
    intro ci
    cases hc : vwCl[ci]? with
    | none => exact ⟨(0, fun _ => 0), fun q hq => (by cases hq)⟩
    | some q =>
      obtain ⟨C, T, N⟩ := q
      obtain ⟨cC, iS, hKn⟩ := u_known hG (zcls hc).1 (hG _ (zinst_t (C, N) (List.mem_map.mpr ⟨(C, T, N), List.mem_of_getElem? hc, rfl⟩)))
      exact ⟨(cC, iS), fun q hq => by cases hq; exact hKn⟩
  obtain ⟨dd, hdd⟩ := Classical.axiomOfChoice hK
  have hs : ∀ i : Nat, ∃ w : Nat × Nat, i < 22 → vk_S 1 [zslen.getD i 0] [zsbyt.getD i []] (fun _ => w.1) (fun _ => w.2) (fun q => s.heap.size ≤ q) s s.heap ∧ ∀ q : String × Nat × String, zstrs[i]? = some q → vk_R q.1 q.2.1 q.2.2 w.1 s := by
    intro i
    by_cases hi : i < 22
    · have hz := zall_at zsok_all hi
      unfold zsok at hz
      cases hq : zstrs[i]? with
      | none => rw [hq] at hz; cases hz
      | some q =>
        obtain ⟨o, k, tx⟩ := q
        rw [hq] at hz
        simp only [Bool.and_eq_true, decide_eq_true_eq] at hz
        obtain ⟨w, h1, h2⟩ := zstr1 hF hA hz.1 (hts _ hz.2)
        exact ⟨w, fun _ => ⟨h1, fun q hq => by cases hq; exact h2⟩⟩
    · exact ⟨(0, 0), fun h => absurd h hi⟩
  obtain ⟨ad, had⟩ := Classical.axiomOfChoice hs
  have hm := zmsg_ok
  simp only [Bool.and_eq_true, decide_eq_true_eq] at hm
  obtain ⟨m0, hm0⟩ := zmsg1 (hF _ hm.1) (hts _ zmsg_t.1)
  obtain ⟨m1, hm1⟩ := zmsg1 (hF _ hm.2) (hts _ zmsg_t.2)
  obtain ⟨f4, f5, f6, f7, f22, f36⟩ := zst_f
  obtain ⟨t1, t2, t3, t4, t5, t6, t7⟩ := zst_t
  refine ⟨hB, (b, L, xs, fun i => (ad i).1, fun i => (ad i).2, m0, m1), (fun ci => (dd ci).1, fun ci => (dd ci).2), rfl, ⟨fun ci q hq => hdd ci q hq, fun k q hk => (by cases hk)⟩, fun w hw hn => ?_, ⟨va_AO.of (hts _ zao_t.1), va_AO.of (hts _ zao_t.2.1), va_AOA.of (hts _ zao_t.2.2)⟩, ⟨hX, hb, hA b hb, fun l9 hl => ?_⟩, ⟨fun i hi => (had i hi).1, fun i q hq => ?_⟩, ⟨va_Zof (hts _ t4) (hts _ t5) (va_eqi (hF _ f6)) hA, va_Zqof (hts _ t6) (hts _ t7) (hF _ f7) hA⟩, ⟨hm0, hm1, vx_Zqof (hts _ t1) (hts _ t3) (hF _ f4) hA, vx_Zqof (hts _ t2) (hts _ t3) (hF _ f5) hA⟩, va_Nc.of (hF _ f22), va_Nc.of (hF _ f36)⟩
  · have h1 := hts w hw
    cases w <;> first | (cases hn; done) | exact va_Nw.of rfl h1
  · cases hl
    exact hsc _
  · have hi : i < 22 := (List.getElem?_eq_some_iff.mp hq).1
    exact (had i hi).2 q hq
end ZStart
/-! how much room it takes -/
theorem aLen_b : (List.range 1100).all (fun T => match atyp T with
    | some tt => Nat.ble (aLen tt) 600
    | none => true) = true := by decide +kernel
theorem aLen_le {T : Nat} {tt : qt} (h : atyp T = some tt) : aLen tt ≤ 600 := by
  rcases Nat.lt_or_ge T 1100 with q | q
  · have h9 := List.all_eq_true.mp aLen_b T (List.mem_range.mpr q)
    rw [h] at h9
    exact Nat.le_of_ble_eq_true h9
  · unfold atyp at h
    rw [bltF.mpr (show 1000 ≤ T by omega)] at h
    simp only [cond_false, nth_eq] at h
    rw [List.getElem?_eq_none (show atM.length ≤ T - 1000 by have : atM.length = 13 := rfl; omega)] at h
    cases h
theorem zsz_le {τ : List Nat} {h : zh} (hh : hM τ h) {k : Nat} {c : zc} (hc : h[k]? = some c) : zsz c ≤ 600 := by
  have hk : k < τ.length := by
    rw [hh.1]
    exact (List.getElem?_eq_some_iff.mp hc).1
  obtain ⟨-, c', hc', ht⟩ := hh.2.2.2 k τ[k] (List.getElem?_eq_getElem hk)
  rw [hc] at hc'
  cases hc'
  unfold tyc at ht
  split at ht
  · rename_i tg L rs tg' fs hT
    have h1 := aLen_le hT
    have h1 : L ≤ 600 := h1
    have h2 := ht.2.1
    show fs.length ≤ 600
    omega
  · rename_i ci ss ci' fs hT
    have h1 := aLen_le hT
    have h1 : ss.length ≤ 600 := h1
    have h2 := ht.2.1
    show fs.length ≤ 600
    omega
  · exact ht.elim
theorem zsl_le : ∀ {h : zh}, (∀ (k : Nat) (c : zc), h[k]? = some c → zsz c ≤ 600) → zsl h ≤ 600 * h.length
  | [], _ => Nat.zero_le _
  | c :: r, hc => by
    have h1 := zsl_le (h := r) (fun k c' hk => hc (k + 1) c' hk)
    have h2 := hc 0 c rfl
    show ((c :: r).map zsz).sum ≤ 600 * (r.length + 1)
    have e : ((c :: r).map zsz).sum = zsz c + zsl r := by
      unfold zsl
      simp
    rw [e]
    omega
theorem law_ok {L : Nat} {xs : Nat → Int32} (hL : L ≤ 3072) : ∃ (scr : List zv) (n0 : Nat) (h1 : zh) (t1 : Nat), scr = (List.range L).map (fun i => zi (xs i)) ∧ zloop (some scr) (zrun n0 60) n0 289 0 (some (.inl (some 1000000)) :: List.replicate 6 none) [] [] 0 = some (.inl (some (zi 1)), h1, t1) ∧ h1.length + t1 ≤ 600000 ∧ zsl h1 + 6 * t1 ≤ 7000000 := by
  have hlen : ((List.range L).map (fun i => zi (xs i))).length = L := by simp
  have hscr : ∀ j, j < ((List.range L).map (fun i => zi (xs i))).length → ((List.range L).map (fun i => zi (xs i)))[j]? = some (zi (xs j)) := fun j hj => by
    rw [hlen] at hj
    simp [hj]
  obtain ⟨x, ⟨n0, e⟩, h1, t1, τ1, rfl, hg, ht⟩ := law_start5 (scr := (List.range L).map (fun i => zi (xs i))) (P := lawP) (fun h y hg iv hy => by
    exact law_l hscr (by omega) 600 atau h hg 0 0 y none none iv (by omega) (Or.inr rfl) (by omega) (by omega))
  have h9 := hg.2.1
  have h8 := zsl_le (h := h1) (fun k c hk => zsz_le hg.1 hk)
  exact ⟨_, n0, h1, t1, rfl, e n0 n0 (Nat.le_refl _) (Nat.le_refl _), by omega, by omega⟩
theorem whole_start {p : Program} {e : Env} {s : State} {m : MethodId} {below : List Frame} {meth : Method} {c : Code} (l : Launch) (hflags : l.flags = flags0) {b L : Nat} {xs : Nat → Int32} (hL : L ≤ 3072) (C0 : lw_At p s m meth c b L xs) : W p l e room_1 s m #[Value.ref b] below meth c s.heap [] 0 0 (lw_Z below #[Value.ref b] s) (entryFrame m ([Value.ref b] : List Value).toArray 7) := by
  obtain ⟨hx, hb, hr, hml, hown, hts, hX, hbl, hlocks, hgv, hnm, htab⟩ := C0
  obtain ⟨scr, n0, h', t', hscr, hlaw, hc1, hc2⟩ := law_ok (xs := xs) hL
  have hsc : ∀ X : Nat → Value → Prop, scr.length = L ∧ ∀ (i : Nat) (a : zv), scr[i]? = some a → zval X [] a (.int (xs i)) := by
    intro X
    subst hscr
    refine ⟨by simp, fun i a ha => ?_⟩
    simp only [List.getElem?_map, Option.map_eq_some_iff] at ha
    obtain ⟨j, hj, rfl⟩ := ha
    have hj2 : j = i := by
      obtain ⟨h1, h2⟩ := List.getElem?_eq_some_iff.mp hj
      simp at h2
      omega
    subst hj2
    exact rfl
  obtain ⟨hB, g, D, hg, hE⟩ := zstart hts hgv hX hbl hsc
  have hst : l.stackTraces = false := by
    unfold Launch.stackTraces
    rw [hflags]
    decide +kernel
  have hG : ∀ w ∈ zGd, w.before #[Value.ref b] s = true := fun w hw => hts w (List.mem_filter.mp hw).1
  have hF : zFr p s m #[Value.ref b] meth c cL_law yL_law.cls yL_law.name g (some scr) D (fun q => s.heap.size ≤ q) := ⟨hx, hb, hown, hG, hnm, hE, fun q hq => hq⟩
  have hS1 : zS (zX g) [] [.inl (some 1000000)] [Value.ref b] := ⟨Or.inr ⟨Nat.le_refl _, Or.inl ⟨rfl, by rw [hg]⟩⟩, trivial⟩
  have hent : zent [.inl (some 1000000)] 7 = some (some (.inl (some 1000000)) :: List.replicate 6 none) := rfl
  obtain ⟨hcat, hLc⟩ := zent_ok zX_ref hent hS1
  have hW0 : zW (zX g) D (fun q => s.heap.size ≤ q) s s.heap [] [] := ⟨fun k q hk => (by cases hk), ⟨fun i j x y hi => (by cases hi), fun k q hk => (by cases hk)⟩, rfl, Nat.zero_le _, fun k q hk => (by cases hk)⟩
  have hhk : ∀ (n1 n2 n3 : Nat) (hs : List (Nat × Nat × Nat × Nat)), zmeth 289 = some (n1, n2, n3, hs) → zhok yL_law.cls [] hs = true := by
    intro n1 n2 n3 hs h9
    have hz := zmeth_law
    rw [h9] at hz
    cases hs with
    | nil => rfl
    | cons a r => cases hz
  rw [entry_eq m [Value.ref b] hcat 7]
  have W0 := zwalk (p := p) (l := l) (e := e) (R := room_1) (s := s) (m := m) (args := #[Value.ref b]) (below := below) (meth := meth) (c := c) (Q := lw_Z below #[Value.ref b] s) (M := (yL_law, cL_law, 7, some .boolean, [], (0, 0, 0, 110))) (mi := 289) (d := 60) hF hB zmd_law hml htab hhk (zCon_all hst n0 60) (zrun_mono n0 60) (show 60 + 8 ≤ 2048 by decide) (show 64 * (60 + 5) ≤ 84000 by decide) n0
  refine W0 0 _ [] [] 0 _ h' t' hlaw s.heap [] 0 0 [] _ [] hW0 va_S.rf hLc trivial (show 0 + (h'.length + t') ≤ 601024 + (0 + 0) by omega) (show 0 + (zsl h' + 6 * t') ≤ 7293034 + (0 + 6 * 0) by omega) ⟨fun H' locs' cells' slots' ws' la' pc' vs' hm hW hS hc hs hfin => ?_, fun ee H' locs' cells' slots' ws' la' pc' ho => (by cases ho), fun ee H' locs' cells' slots' ws' la' pc' rest q ce n1 n2 n3 hs9 ho => (by cases ho)⟩
  rcases hfin with ⟨ho, -⟩ | ⟨v, x, n1, k, n3, hs9, ho, rfl, hv, hmt, hrt, hd⟩
  · cases ho
  · cases ho
    have hv : x = .int 1 := hv
    subst hv
    have hd : decode code pc' = .ok (.ireturn, 1) := by
      rcases hd with ⟨hd, -⟩ | ⟨-, hz⟩ | ⟨-, hz⟩
      · exact hd
      · cases hz
      · cases hz
    have hc9 : cells' ≤ 601024 := by
      have : cells' + (0 + 0) = 0 + (h'.length + t') := hc
      omega
    have hs9 : slots' ≤ 7293034 := by
      have : slots' + (0 + 6 * 0) = 0 + (zsl h' + 6 * t') := hs
      omega
    exact va_forget (fun q hq => hS.2.2 q hq) (W.widen hc9 hs9 (lw_ret hx hb hr hlocks hd))
set_option maxHeartbeats 4000000 in
theorem lw_walk (l : Launch) (hflags : l.flags = flags0) (b : Addr) (xs : List Int32) : MetFree l x (headSpec (Jvm.Cond.code x code maxLocals ret :: tables_1) room_1) (lw_P b xs) (fun _ _ _ _ _ => True) lw_Q := by
  refine MetFree.of_bodyS (code := code) (maxLocals := maxLocals) (ret := ret) (by decide) ?_ ?_
  · intro args s m h hn
    obtain ⟨meth, c, h1, h2, h3, h4, h5, h6, -, -⟩ := Cond.code_spec hn (atoms_spec (ws := Jvm.Cond.code x code maxLocals ret :: tables_1) h _ List.mem_cons_self)
    exact ⟨meth, c, h1, h2, h3, h4, h5, h6⟩
  · intro p e s m args below meth c s₁ B hml0 hP _
    obtain ⟨rfl, hx, hbd, hgv⟩ := hP
    obtain ⟨scr, harrAt, hlist, hof, hsmall⟩ := hx
    obtain ⟨hcb, hkn, -, -⟩ := State.arrayAt?_spec harrAt
    have hown : s.vm.findClass R_law = some m.cls := findClass_of_methodNamed B.named
    have hts0 : ∀ c ∈ (Jvm.Cond.code x code maxLocals ret :: tables_1), c.before #[Value.ref b] s = true := atoms_spec (ws := Jvm.Cond.code x code maxLocals ret :: tables_1) B.pre
    have hts : ∀ w ∈ lw_tbl, w.before #[Value.ref b] s = true := k2_hts_sels lw_privs (fun w hw => hts0 w (List.mem_cons_of_mem _ hw)) lw_privs_ok
    have hml : c.maxLocals = 7 := B.maxLocals_eq (hts0 _ List.mem_cons_self)
    have htab : c.exceptionTable.toList = [] := by
      obtain ⟨meth9, c9, h1, h2, -, -, -, -, h7, -⟩ := Cond.code_spec B.named (hts0 _ List.mem_cons_self)
      cases Option.some.inj (h1.symm.trans B.method)
      cases Option.some.inj (h2.symm.trans (Stand.of_body B).code)
      rw [Array.isEmpty_iff.mp h7]
    have X₀ : Stand p l e room_1 s m #[Value.ref b] below meth c s₁ [] 0 0 := Stand.of_body B
    have hh0 : s₁.heap = s.heap := by rw [B.state]; rfl
    have hsz : scr.slots.size = xs.length := by rw [← Array.length_toList, hlist, List.length_map]
    have hval : ∀ j : Nat, j < xs.length → scr.slots[j]? = some (.int (xs.getD j 0)) := fun j hj => by
      rw [← Array.getElem?_toList, hlist]
      simp [hj]
    have hbl : b < s.heap.size := (Array.getElem?_eq_some_iff.mp hcb).1
    have hX : va_X b xs.length (fun j => xs.getD j 0) s s.heap := ⟨scr, hcb, hof, hkn, hsz, hval⟩
    have K : W p l e room_1 s m #[Value.ref b] below meth c s₁.heap [] 0 0 (lw_Z below #[Value.ref b] s) (entryFrame m ([Value.ref b] : List Value).toArray 7) := by
      rw [hh0]
      exact whole_start l hflags hbd ⟨B.exec, B.bytes, B.returns, hml, hown, hts, hX, hbl, B.notSynchronized, hgv, (name_of_methodNamed B.named B.method).1, htab⟩
    obtain ⟨t, a1, o, b1, b2, b3⟩ := K s₁ rfl X₀
    exact ⟨t, o, a1, b1, b2, b3⟩
theorem lw_pre_spec {args : Array Value} {s : State} (h : (Jvm.Cond.and given_1 narrow_1).before args s = true) (hr : rest_1_c.before args s = true) : ∃ (b : Addr) (xs : List Int32), lw_P b xs args s := by
  have hs := flat_of_before _ h
  have hq := flat_of_before _ hr
  have hc : (Cond.count 1).before args s = true := hs _ (by decide +kernel)
  have harr : (Cond.arrayOf (.arg 0) .int).before args s = true := hs _ (by decide +kernel)
  have hle : (Cond.le (.length (.arg 0)) (.int 3072)).before args s = true := hs _ (by decide +kernel)
  have hlen : (Cond.isInt (.length (.arg 0))).before args s = true := hq _ (by decide +kernel)
  have hall : (Cond.all (.arg 0) (.isInt (.elem (.arg 0) (.index 0)))).before args s = true := hq _ (by decide +kernel)
  obtain ⟨b, xs, hb, hx⟩ := State.ints_of_pre rfl harr hlen hall
  have hsm : xs.length < 2 ^ 31 := hx.choose_spec.2.2.2
  have hev : (Term.length (.arg 0)).eval args s none [] s = some (.int xs.length.toInt32) := hx.length_eval hb
  have hv := Cond.le_ints hev (show (Term.int 3072).eval args s none [] s = some (.int 3072) from rfl)
  have hd : xs.length.toInt32 ≤ 3072 := by
    simpa [Cond.before, Cond.holds, hv] using hle
  have hN : xs.length ≤ 3072 := (Int32.ofNat_le_ofNat hsm (by decide)).mp (show Int32.ofNat xs.length ≤ Int32.ofNat 3072 from hd)
  exact ⟨b, xs, Cond.one_arg hc (show args[0]? = some (.ref b) from hb), hx, hN, h⟩
theorem lw_comes (l : Launch) (hflags : l.flags = flags0) : Comes l x (Jvm.Cond.code x code maxLocals ret :: tables_1) room_1 (fun tb e args s => Calls_1 tb e args s ∧ rest_1 tb e args s ∧ Pre_1 tb e args s)
    (fun _ _ args s o t => lw_Q args s o t) := by
  intro p e ha hc hk s m args below hf hfit hheap happ hpre
  obtain ⟨b, xs, hP⟩ := lw_pre_spec hpre.2.2 hpre.2.1
  obtain ⟨k, o, h1, h2, h3, hQ⟩ := lw_walk l hflags b xs p e ha hc hk s m args below hf ((Spec.applies_iff_loose hf).mp happ).1 hP trivial
  exact ⟨k, o, h1, h2, h3, hQ⟩
theorem lw_frame {s t : State} {o : Outcome} {args : Array Value} (h : Framed s o t [] 601024 7293034) :
    Framed s o t (fieldLocs frame_1_writes args s ++ arrayLocs frame_1_arrays args s ++ staticLocs frame_1_statics s) 601024 7293034 := h
theorem lw_limb (L : Cond) (hL : ∀ (args : Array Value) (s t : State), L.after args s (.returned (some (.int 1))) t = true) :
    ArmFor flags0 classFile x code maxLocals ret World_1 tables_1 room_1 Calls_1 rest_1 Pre_1
      (fun tb e a s o t => postC L tb e a s o t ∧ Framed s o t (fieldLocs frame_1_writes a s ++ arrayLocs frame_1_arrays a s ++ staticLocs frame_1_statics s) 601024 7293034) := by
  intro l hflags _ _ p e ha hc hk s m args below hf hfit hheap happ hpre
  obtain ⟨k, o, h1, h2, h3, rfl, hF⟩ := lw_comes l hflags p e ha hc hk s m args below hf hfit hheap happ hpre
  exact ⟨k, _, h1, h2, h3, hL args s _, lw_frame hF⟩
theorem i_vc : Claimed_1_1 ∧ Claimed_1_2 := ⟨lw_limb limb_1_1 (fun args s t => by simp [limb_1_1, Cond.after, Cond.holds, Cond.value]), lw_limb limb_1_2 (fun args s t => Cond.after_iff.mpr (by
  first | (rw [show limb_1_2 = Cond.eq .result (.int 1) from rfl, Cond.eq_ints (x := 1) (y := 1) rfl rfl]; simp; done) | (simp [limb_1_2, Cond.value, Term.eval]; done)))⟩
