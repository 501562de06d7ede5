/-! THE START: what is known of the state -/
theorem kk_classes {s : State} {args : Array Value} (hg : ∀ w ∈ lw_g, w.before args s = true) : ∃ D : va_G, ∀ (c : Nat) (q : vw_C), vwCl[c]? = some q → u_Kn s q.1 q.2.1 q.2.2 (D.1 c) (D.2 c) := by
  obtain ⟨c0, i0, k0⟩ := u_known (C := RJ0) (T := TJ0) (N := 2) (n := 4) hg in_J0 (hg _ (lw_g_at 615 (by decide +kernel) (by decide +kernel)))
  obtain ⟨c1, i1, k1⟩ := u_known (C := RJx4a65c) (T := TJx4a65c) (N := 3) (n := 3) hg in_Jx4a65c (hg _ (lw_g_at 37 (by decide +kernel) (by decide +kernel)))
  obtain ⟨c2, i2, k2⟩ := u_known (C := RX0) (T := TX0) (N := 3) (n := 3) hg in_X0 (hg _ (lw_g_at 31 (by decide +kernel) (by decide +kernel)))
  obtain ⟨c3, i3, k3⟩ := u_known (C := RX1) (T := TX1) (N := 4) (n := 4) hg in_X1 (hg _ (lw_g_at 115 (by decide +kernel) (by decide +kernel)))
  obtain ⟨c4, i4, k4⟩ := u_known (C := RX2) (T := TX2) (N := 7) (n := 7) hg in_X2 (hg _ (lw_g_at 447 (by decide +kernel) (by decide +kernel)))
  obtain ⟨c5, i5, k5⟩ := u_known (C := RX3) (T := TX3) (N := 10) (n := 10) hg in_X3 (hg _ (lw_g_at 76 (by decide +kernel) (by decide +kernel)))
  obtain ⟨c6, i6, k6⟩ := u_known (C := RX4) (T := TX4) (N := 13) (n := 13) hg in_X4 (hg _ (lw_g_at 628 (by decide +kernel) (by decide +kernel)))
  obtain ⟨c7, i7, k7⟩ := u_known (C := RX5) (T := TX5) (N := 3) (n := 3) hg in_X5 (hg _ (lw_g_at 23 (by decide +kernel) (by decide +kernel)))
  obtain ⟨c8, i8, k8⟩ := u_known (C := RX6) (T := TX6) (N := 22) (n := 22) hg in_X6 (hg _ (lw_g_at 672 (by decide +kernel) (by decide +kernel)))
  refine ⟨(fun k => if k = 0 then c0 else if k = 1 then c1 else if k = 2 then c2 else if k = 3 then c3 else if k = 4 then c4 else if k = 5 then c5 else if k = 6 then c6 else if k = 7 then c7 else c8, fun k => if k = 0 then i0 else if k = 1 then i1 else if k = 2 then i2 else if k = 3 then i3 else if k = 4 then i4 else if k = 5 then i5 else if k = 6 then i6 else if k = 7 then i7 else i8), fun k q hq => ?_⟩
  match k, hq with
  | 0, hq => cases hq; exact k0
  | 1, hq => cases hq; exact k1
  | 2, hq => cases hq; exact k2
  | 3, hq => cases hq; exact k3
  | 4, hq => cases hq; exact k4
  | 5, hq => cases hq; exact k5
  | 6, hq => cases hq; exact k6
  | 7, hq => cases hq; exact k7
  | 8, hq => cases hq; exact k8
  | k + 9, hq => simp at hq
theorem kk_one {s : State} {args : Array Value} {ty : FieldType} (h : (Cond.arrayClass ty).before args s = true) : ∃ c : ClassId, ArrOfT s c ty ∧ s.vm.findClass ("[" ++ ty.toString) = some c := by
  obtain ⟨c, k, comp, f1, f2, f3⟩ := Cond.arrayClass_spec h
  exact ⟨c, fun N z => ⟨fun k h => (by cases h), k, f2, comp, f3⟩, f1⟩
theorem kk_obj {s : State} {args : Array Value} (h : (Cond.arrayOver (.object "java/lang/Object")).before args s = true) : ∃ c : ClassId, ArrOfT s c (.object "java/lang/Object") ∧ va_RA s c (.object "java/lang/Object") := by
  obtain ⟨comp, c, k, f1, f2, f3, f4, f5⟩ := Cond.arrayOver_spec h
  exact ⟨c, fun N z => ⟨fun k h => (by cases h), k, f3, comp, f4⟩, k, comp, f3, f4, f1, f5⟩
theorem kk_nest : ∀ q ∈ nestL, Cond.methodLinkNest q.1 q.2.1 q.2.2.1 q.2.2.2 ∈ lw_tbl := by decide +kernel
theorem kk_nestT : ∀ q ∈ nestL, (Cond.methodLinkNest q.1 q.2.1 q.2.2.1 q.2.2.2).onTables = true := by decide +kernel
theorem kk_dec : ∀ x ∈ aeD, Cond.declares x ∈ lw_tbl := by decide +kernel
abbrev dcT : Term := .static "java/util/ArrayList" "DEFAULTCAPACITY_EMPTY_ELEMENTDATA" "[Ljava/lang/Object;"
theorem kk_start {s : State} {args : Array Value} (hts : ∀ w ∈ lw_tbl, w.before args s = true) (hgv : (Jvm.Cond.and given_1 narrow_1).before args s = true) : ∃ (G : Gt) (sa : Nat), KK G s ∧ SZ G s.heap.size s s.heap ∧ TX s.heap.size sa s s.heap := by
  have hg : ∀ w ∈ lw_g, w.before args s = true := fun w hw => hts w (List.mem_filter.mp hw).1
  have hs := flat_of_before _ hgv
  have hA : ∀ a : Nat, a < s.heap.size → ¬ s.heap.size ≤ a := fun a h => Nat.not_le.mpr h
  obtain ⟨D, hD⟩ := kk_classes hg
  obtain ⟨cI, aI, nI⟩ := kk_one (hg _ ac_int)
  obtain ⟨cJ, aJ, nJ⟩ := kk_one (hg _ ac_long)
  obtain ⟨cZ, aZ, nZ⟩ := kk_one (hg _ ac_boolean)
  have hover : (Cond.arrayOver (.object "java/lang/Object")).before args s = true := hts _ (by decide +kernel)
  obtain ⟨cQ, aQ, nQ⟩ := kk_obj hover
  have hmir : (Cond.isRef (.mirror "[Ljava/lang/Object;")).before args s = true := hs _ (by decide +kernel)
  have harr : (Cond.arrayOf dcT (.object "java/lang/Object")).before args s = true := hs _ (by decide +kernel)
  have hlen : (Cond.eq (.length dcT) (.int 0)).before args s = true := hs _ (by decide +kernel)
  obtain ⟨t, e1, hT⟩ := va_Tof (A := fun q => s.heap.size ≤ q) (N := 0) (f := fun _ => .null) (by decide) harr (va_eqI (v := .int 0) (by simpa [Cond.before, Cond.holds] using hlen) rfl) (fun j hj => absurd hj (by omega)) hA
  have hZ := va_Zref (A := fun q => s.heap.size ≤ q) (hts (.laysStatic "java/util/ArrayList" "DEFAULTCAPACITY_EMPTY_ELEMENTDATA" "[Ljava/lang/Object;") (by decide +kernel)) (hts (.initialized "java/util/ArrayList") (by decide +kernel)) e1 hA
  have htl : t < s.heap.size := by
    obtain ⟨cell, h1, -⟩ := hT
    exact (Array.getElem?_eq_some_iff.mp h1).1
  obtain ⟨cX, kX, fX, -⟩ := Cond.instantiable_spec (hts (.instantiable "AnswerSums" 3) (by decide +kernel))
  have hstr : (Cond.stringRef RX5 48 aeT).before args s = true := hts _ (by decide +kernel)
  obtain ⟨k9, cf9, i9, sa, -, -, -, -, -, hev⟩ := Cond.stringRef_spec (cls := RX5) fX hstr
  refine ⟨(D, (fun k => if k = 0 then cI else if k = 1 then cJ else if k = 2 then cZ else cQ), t), sa, ⟨⟨hD, fun k q hq => ?_⟩, fun q hq => va_tabs (kk_nestT q hq) rfl (hts _ (kk_nest q hq)), va_tabs rfl rfl (hts (.castable "AnswerSums$Task" "AnswerSums$Part") (by decide +kernel)), fun C hC => ?_, va_AO.of hover, va_tabs rfl rfl (hts (.declares ⟨"java/lang/Object", "getClass", "()Ljava/lang/Class;"⟩) (by decide +kernel)), va_Mi.of hmir⟩, ⟨hZ, htl, hT⟩, ?_⟩
  · match k, hq with
    | 0, hq => cases hq; exact ⟨aI, nI⟩
    | 1, hq => cases hq; exact ⟨aJ, nJ⟩
    | 2, hq => cases hq; exact ⟨aZ, nZ⟩
    | 3, hq => cases hq; exact ⟨aQ, nQ⟩
    | k + 4, hq => simp at hq
  · rcases List.mem_cons.mp hC with rfl | hC
    · exact va_tabs rfl rfl (hts (.castable "AnswerSums$Task" "java/lang/Object") (by decide +kernel))
    · rw [List.mem_singleton.mp hC]
      exact va_tabs rfl rfl (hts (.castable "AnswerSums$Part" "java/lang/Object") (by decide +kernel))
  · have hini : (Cond.initialized Bundle.tN).before args s = true := hts _ (by decide +kernel)
    exact ⟨vx_Zqof (hts _ (by decide +kernel)) hini (hs _ (by decide +kernel)) hA, vx_Zqof (hts _ (by decide +kernel)) hini (hs _ (by decide +kernel)) hA, vk_R.of hstr hev, fun x hx => va_tabs rfl rfl (hts _ (kk_dec x hx)), va_tabs rfl rfl (hts _ (by decide +kernel))⟩
theorem j_known {p : Program} {l : Launch} {e : Env} {R : Room} {s : State} {m : MethodId} {args : Array Value} {below : List Frame} {meth : Method} {c : Code} {Q : State → Prop} {nL : Nat} {G : Gt} {A : Nat → Prop} {cells slots pc : Nat} {L : List (Nat × Value)} {st : List Value} {h : hF} (k : (∀ a : Nat, h a ≠ none → A a) → J p l e R s m args below meth c Q nL G A cells slots pc L st h) : J p l e R s m args below meth c Q nL G A cells slots pc L st h := fun ls H locs hl hP hA hS => k (fun a ha => by
  cases hh : h a with
  | none => exact absurd hh ha
  | some x => exact hA _ _ hh) ls H locs hl hP hA hS
/-- behind both constructors and the law's own row -/
theorem LI.zero {G : Gt} {h4 h12 : hF} {AD A9 : Nat → Nat} {q8 q17 : Nat} {e8 : va_E} (hL : Cl G h4 AD (fun _ _ => 0) 0 0) (hq8 : h4 q8 = none) (hM : Mo G h12 q8 A9 (fun _ _ => 0) 0 0 0 0 0) (h9 : ∀ k : Nat, isA k = true → hup h4 q8 e8 (A9 k) = none) (hk : ∀ a : Nat, hup h4 q8 e8 a ≠ none → a ≠ q8 → h12 a = hup h4 q8 e8 a) (hq17 : h12 q17 = none) : LI G (hup h12 q17 (gJ G 1 (fun _ => 0))) (AD 15) q8 q17 A9 (fun _ _ => 0) 0 0 := by
  have live : ∀ k : Nat, Lv 0 0 k → h4 (AD k) ≠ none := fun k hk => hL.1.live hk
  have d8 : ∀ k : Nat, Lv 0 0 k → AD k ≠ q8 := fun k hk z => live k hk (by rw [z]; exact hq8)
  have e12 : ∀ k : Nat, Lv 0 0 k → h12 (AD k) = h4 (AD k) := fun k hv => (hk _ (by rw [hup_ne (d8 k hv)]; exact live k hv) (d8 k hv)).trans (hup_ne (d8 k hv))
  have d17 : ∀ k : Nat, Lv 0 0 k → AD k ≠ q17 := fun k hv z => live k hv (by rw [← e12 k hv, z]; exact hq17)
  have b17 : q17 ≠ q8 := fun z => by
    have := hM.1
    rw [← z, hq17] at this
    cases this
  have a17 : ∀ k : Nat, isA k = true → q17 ≠ A9 k := fun k hv z => isA_some hM hv (by rw [← z]; exact hq17)
  refine ⟨AD, 0, 0, 0, fun _ => 0, hL.keep (by omega) (fun k hv => (hup_ne (d17 k hv)).trans (e12 k hv)), rfl, hM.keep (hup_ne b17.symm) (fun k hv => hup_ne (a17 k hv).symm), ⟨by omega, by omega, fun o h1 h2 => by omega, fun i h1 h2 => by omega⟩, hup_eq _ _ _, fun k hv => ⟨d8 k hv, d17 k hv, fun j hj z => ?_⟩, b17, a17⟩
  have := h9 j hj
  rw [← z, hup_ne (d8 k hv)] at this
  exact live k hv this
