/-! THE THROW: a task with a period of 0 -/
abbrev aeN : String := "java/lang/ArithmeticException"
def aeL : List String := ["java/lang/RuntimeException", "java/lang/Exception"]
def aeD : List MethodName := [⟨"java/lang/RuntimeException", "<init>", "(Ljava/lang/String;)V"⟩, ⟨"java/lang/Exception", "<init>", "(Ljava/lang/String;)V"⟩, ⟨"java/lang/Throwable", "<init>", "(Ljava/lang/String;)V"⟩]
def aeT : String := "a task's period is 0"
/-- what a throw needs of the state: the two statics of Throwable, the text, words that calls keep -/
def TX (B sa : Nat) (U : State) (H : Heap) : Prop := vx_Zq Bundle.tN "UNASSIGNED_STACK" Bundle.steD (fun q => B ≤ q) U H ∧ vx_Zq Bundle.tN "SUPPRESSED_SENTINEL" Bundle.listD (fun q => B ≤ q) U H ∧ vk_R RX5 48 aeT sa U ∧ (∀ x ∈ aeD, va_Nw (.declares x) U) ∧ va_Nw (.castable aeN aeN) U
theorem TX.of {B sa : Nat} {s : State} {A : Nat → Prop} {H : Heap} {locs : List Loc} (h : TX B sa s s.heap) (hAB : ∀ q : Nat, A q → B ≤ q) (hS : va_S A s.heap H locs) {U : State} (hU : U.heap = H) (hW : s.WarmedH U.vm) : TX B sa U U.heap := by
  obtain ⟨h1, h2, h3, h4, h5⟩ := h
  rw [hU]
  exact ⟨(h1.kept (fun q a1 a2 => hS.2.1 q a1 (fun z => a2 (hAB q z)))).moved hW.alike, (h2.kept (fun q a1 a2 => hS.2.1 q a1 (fun z => a2 (hAB q z)))).moved hW.alike, h3.warm hW, fun x hx => (h4 x hx).warmD hW, h5.warmC hW⟩
theorem TX.same {B sa : Nat} {u U : State} {H : Heap} (hv : u.vm = U.vm) (h : TX B sa u H) : TX B sa U H := by
  obtain ⟨h1, h2, h3, h4, h5⟩ := h
  have ha : u.vm.Alike U.vm := by rw [hv]; exact Vm.Alike.refl U.vm
  exact ⟨h1.moved ha, h2.moved ha, h3.same hv.symm, fun x hx => (h4 x hx).same rfl hv, h5.same rfl hv⟩
def WX (G : Gt) (B sa : Nat) (h : hF) (sz : Nat) : State → Prop := fun U => WP G B h sz U ∧ TX B sa U U.heap
theorem WX.blind {G : Gt} {B sa : Nat} {h : hF} {sz : Nat} {av : List Value} : FrameBlind (va_Pc av (WX G B sa h sz)) := by
  intro a U g mk ⟨q0, q1, q2⟩
  exact ⟨(WP.blind a U g mk ⟨q0, q1⟩).1, (WP.blind a U g mk ⟨q0, q1⟩).2, q2.same rfl⟩
theorem ae_in : ∀ w ∈ vx_atS RX5 50 aeN aeL, w ∈ lw_tbl := by decide +kernel
theorem ae_bad : ∀ w ∈ (vx_atS RX5 50 aeN aeL).filter (fun w => !goodWord w), w ∈ aeD.map Cond.declares ++ [Cond.castable aeN aeN] := by decide +kernel
theorem ae_ot : ∀ w ∈ Cond.classLink RX5 46 aeN :: Cond.initialized aeN :: vx_atS RX5 50 aeN aeL, vx_ot w = true := by decide +kernel
theorem ae_cl : Cond.classLink RX5 46 aeN ∈ lw_g := lw_g_at 625 (by decide +kernel) (by decide +kernel)
theorem ae_ini : Cond.initialized aeN ∈ lw_g := lw_g_at 12 (by decide +kernel) (by decide +kernel)
theorem ae_lcl : Cond.classLink RL 13 aeN ∈ lw_g := lw_g_at 552 (by decide +kernel) (by decide +kernel)
theorem ae_at {B sa : Nat} {args : Array Value} {s : State} {H : Heap} (hts : ∀ w ∈ lw_g, w.before args s = true) (hT : TX B sa s H) : ∀ w ∈ vx_atS RX5 50 aeN aeL, w.before args s = true := by
  refine vx_hat (B := aeD.map Cond.declares ++ [Cond.castable aeN aeN]) (fun w hw => ?_) ae_bad (fun w hw => ?_)
  · obtain ⟨h1, h2⟩ := List.mem_filter.mp hw
    exact hts w (lw_g_in (ae_in w h1) h2)
  · rcases List.mem_append.mp hw with h | h
    · obtain ⟨x, hx, rfl⟩ := List.mem_map.mp h
      exact va_tabs rfl rfl (hT.2.2.2.1 x hx)
    · rw [List.mem_singleton.mp h]
      exact va_tabs rfl rfl hT.2.2.2.2
def XT (G : Gt) (h : hF) : String → State → State → Prop := fun E st t => E = aeN ∧ HP G h t.heap ∧ va_F (fr h st.heap.size) st t
set_option maxRecDepth 100000 in
set_option maxHeartbeats 4000000 in
theorem c_taskX {l : Launch} {G : Gt} {B : Nat} {h : hF} {AD : Nat → Nat} {σ : St} {n m : Nat} (hL : Cl G h AD σ n m) (hO : OK n m σ) {x : Int} (hx9 : -9223372036854775808 ≤ x ∧ x < 9223372036854775808) {y : Int} (hy9 : -9223372036854775808 ≤ y ∧ y < 9223372036854775808) {r : Int} (hr9 : -2147483648 ≤ r ∧ r < 2147483648) (hth : (1 ≤ x ∧ x ≤ 1000) ∧ y = 0 ∧ (0 ≤ r ∧ r ≤ 255) ∧ n ≠ 16) (hflags : l.stackTraces = false) (sa : Nat) : ∀ sz : Nat, vx_Met l yX5_task (.code yX5_task cX5_task 7 (some .int) :: lw_g) (rmN 7 5 70) (va_Pc [.ref (AD 15), .long (lZ x), .long (lZ y), .int (iZ r)] (WX G B sa h sz)) (fun _ _ _ _ => False) (XT G h) 5 70 (fr h sz) := by
  intro sz
  refine vx_ofW (cc := cX5_task) (maxL := 7) (ret := some .int) (by decide) rfl ?_
  intro p e s m9 args' below meth c s₁ Bd hml hnx hv
  obtain ⟨rfl, ⟨hsz, hP, hK, hZ, hB, hBs⟩, hT⟩ := hv
  subst hsz
  have hts0 := atoms_spec (ws := .code yX5_task cX5_task 7 (some .int) :: lw_g) Bd.pre
  have hl := lv_entry [.ref (AD 15), .long (lZ x), .long (lZ y), .int (iZ r)] (n := 7) (Nat.le_of_ble_eq_true rfl)
  rw [lg_entry_eq]
  obtain ⟨A, hAf⟩ : ∃ A : Nat → Prop, A = fr h s.heap.size := ⟨_, rfl⟩
  have hX : CX p s m9 [.ref (AD 15), .long (lZ x), .long (lZ y), .int (iZ r)].toArray c cX5_task 7 RX5 G B A := ⟨Bd.exec, Bd.bytes, hml, findClass_of_methodNamed Bd.named, fun w hw => hts0 w (List.mem_cons_of_mem _ hw), hK, hZ, fun q hq => by rw [hAf]; exact Or.inr hq, fun q hq => by
    rw [hAf] at hq
    rcases hq with hq | hq
    · cases hh : h q with
      | none => exact absurd hh hq
      | some x => exact hB _ _ hh
    · exact Nat.le_trans hBs hq⟩
  have hlk : meth.locks = false := Bd.notSynchronized
  suffices hj : J p l e (rmN 7 5 70) s m9 [.ref (AD 15), .long (lZ x), .long (lZ y), .int (iZ r)].toArray below meth c (vx_MQ below (fun _ _ _ _ => False) (XT G h) [.ref (AD 15), .long (lZ x), .long (lZ y), .int (iZ r)].toArray s 5 70 (fr h s.heap.size)) 7 G A 0 0 0 (lv_args 0 [.ref (AD 15), .long (lZ x), .long (lZ y), .int (iZ r)]) [] h from hj _ s.heap [] hl hP (fun a x hx => by rw [hAf]; exact Or.inl (by rw [hx]; exact fun z => by cases z)) va_S.rf
  clear hl
  have hC := hL.1
  have hn16 := hO.1
  have hm8 := hO.2.1
  have h_C := hC.2.1.1
  have hTL := hC.2.2.1
  have hIL := hC.2.2.2.1
  have hTL9 := hTL
  obtain ⟨mcT, capT, gT, h_TL, -⟩ := hTL9
  have hIL9 := hIL
  obtain ⟨mcI, capI, gI9, h_IL, -⟩ := hIL9
  have h_S := hC.2.1.2
  refine j_lload_n hX dX5_task_0 rfl ?_
  refine j_callS hX cs_X5_30 (c_isLength (by omega)) dX5_task_1 rfl (by exact ⟨Nat.le_of_ble_eq_true rfl, Nat.le_of_ble_eq_true rfl⟩) (by exact ⟨Nat.le_of_ble_eq_true rfl, Nat.le_of_ble_eq_true rfl⟩) (by exact Nat.le_of_ble_eq_true rfl) (fun v1 h1 hp1 => ?_) rfl
  obtain ⟨⟨y1, rfl, hy1⟩, rfl⟩ := hp1
  refine j_if_eq hX 20 dX5_task_4 (by decide) (by omega) (fun c4 => absurd c4 (by omega)) (fun c4 => ?_)
  refine j_iload hX dX5_task_7 rfl ?_
  refine j_if_lt hX 20 dX5_task_9 (by decide) (by omega) (fun c9 => absurd c9 (by omega)) (fun c9 => ?_)
  refine j_iload hX dX5_task_12 rfl ?_
  refine j_sipush hX dX5_task_14 (by decide) ?_
  refine j_icmp_le hX 23 dX5_task_17 (by decide) (by omega) (by omega) (fun c17 => ?_) (fun c17 => absurd c17 (by omega))
  refine j_lload_n hX dX5_task_23 rfl ?_
  refine j_lconst0 hX dX5_task_24 ?_
  refine j_lcmp_lt hX 37 dX5_task_25 dX5_task_26 (by decide) (by omega) (by omega) (fun c25 => absurd c25 (by omega)) (fun c25 => ?_)
  refine j_lload_n hX dX5_task_29 rfl ?_
  refine j_ldc2 hX k_X5_34 (z := 20000) (by decide) dX5_task_30 ?_
  refine j_lcmp_le hX 40 dX5_task_33 dX5_task_34 (by decide) (by omega) (by omega) (fun c33 => ?_) (fun c33 => absurd c33 (by omega))
  refine j_aload_n hX dX5_task_40 rfl ?_
  refine j_get hX fl_X5_10_7 dX5_task_41 h_S (by rfl) ?_
  refine j_get hX fl_X5_36_2 dX5_task_44 h_C (by rfl) ?_
  refine j_callV hX cv_X5_40 (c_size hTL) dX5_task_47 h_TL rfl rfl (by exact ⟨Nat.le_of_ble_eq_true rfl, Nat.le_of_ble_eq_true rfl⟩) (by exact ⟨Nat.le_of_ble_eq_true rfl, Nat.le_of_ble_eq_true rfl⟩) (by exact Nat.le_of_ble_eq_true rfl) (fun v47 h47 hp47 => ?_) rfl
  obtain ⟨rfl, rfl⟩ := hp47
  refine j_iconst hX dX5_task_50 ?_
  refine j_iadd hX dX5_task_51 ?_
  refine j_istore hX dX5_task_52 (by decide) ?_
  refine j_iload hX dX5_task_54 rfl ?_
  refine j_bipush hX dX5_task_56 (by decide) ?_
  refine j_icmp_le hX 64 dX5_task_58 (by decide) (by omega) (by omega) (fun c58 => ?_) (fun c58 => absurd c58 (by omega))
  refine j_lload_n hX dX5_task_64 rfl ?_
  refine j_lconst0 hX dX5_task_65 ?_
  refine j_lcmp_ne hX 80 dX5_task_66 dX5_task_67 (by decide) (by omega) (by omega) (fun c66 => absurd c66 (by omega)) (fun c66 => ?_)
  intro ls H locs hl hP hA hS
  have hfr : ∀ q : Nat, A q → fr h s.heap.size q := fun q hq => by rw [hAf] at hq; exact hq
  refine vx_throwS (names := aeL) (text := aeT) (sa := sa) (A := A) hX.1 hX.2.1 hflags hX.2.2.2.1 (by decide) (by decide) (hX.2.2.2.2.1 _ ae_cl) (hX.2.2.2.2.1 _ ae_ini) hT.2.2.1 (ae_at hX.2.2.2.2.1 hT) ae_ot (hT.1.narrow (fun q hq => hX.2.2.2.2.2.2.2.2 q hq)) (hT.2.1.narrow (fun q hq => hX.2.2.2.2.2.2.2.2 q hq)) hS (hl.1.trans hX.2.2.1.symm) dX5_task_70 dX5_task_73 dX5_task_74 dX5_task_76 dX5_task_79 (fun x hx => (hnx x hx).elim) (Nat.le_of_ble_eq_true rfl) (Nat.le_of_ble_eq_true rfl) (Nat.le_of_ble_eq_true rfl) (Nat.le_of_ble_eq_true rfl) hlk (fun t _ t2 t3 => ⟨rfl, fun a e9 he => (hP a e9 he).kept (t3 a (hP.lt he)), Nat.le_trans hS.1 t2, fun q h1 h2 => (t3 q (Nat.lt_of_lt_of_le h1 hS.1)).trans (hS.2.1 q h1 (fun z => h2 (hfr q z)))⟩) (fun z hz => hfr _ (hS.2.2 z hz)) (Nat.le_of_ble_eq_true rfl) (Nat.le_of_ble_eq_true rfl)
