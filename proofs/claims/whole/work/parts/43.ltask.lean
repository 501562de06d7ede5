/-! THE LAW'S OWN task: with its table -/
abbrev lH : List (Nat × Nat × Nat × Nat) := [(0, 13, 16, 13)]
def CtT (l : Launch) (G : Gt) (B sa : Nat) (y : MethodName) (bytes : ByteArray) (maxL : Nat) (ret : Option FieldType) (hh : List (Nat × Nat × Nat × Nat)) (d mc ms : Nat) (args : List Value) (h : hF) (post : Value → hF → Prop) : Prop := ∀ sz : Nat, Met l y (.codeWith y bytes maxL ret hh :: lw_g) (rmN d mc ms) (va_Pc args (WX G B sa h sz)) (QV G h post) mc ms (fr h sz)
theorem CtT.of {l : Launch} {G : Gt} {B sa : Nat} {y : MethodName} {cc : ByteArray} {maxL : Nat} {ret : Option FieldType} {hh : List (Nat × Nat × Nat × Nat)} {d mc ms : Nat} {args : List Value} {h : hF} {post : Value → hF → Prop} (hy : plainName y.cls = true) (hlen : (lg_sl args).length ≤ maxL)
    (body : ∀ (p : Program) (e : Env) (s : State) (m : MethodId) (below : List Frame) (meth : Method) (c : Code) (A : Nat → Prop), CX p s m args.toArray c cc maxL y.cls G B A → RX meth ret A h s → TX B sa s s.heap → c.exceptionTable.toList = tableOf hh →
      J p l e (rmN d mc ms) s m args.toArray below meth c (MQ below (QV G h post) args.toArray s mc ms (fr h s.heap.size)) maxL G A 0 0 0 (lv_args 0 args) [] h) : CtT l G B sa y cc maxL ret hh d mc ms args h post := by
  intro sz
  refine va_MetW (cc := cc) (maxL := maxL) (ret := ret) hy rfl ?_
  intro p e s m args' below meth c s₁ Bd hml hv
  obtain ⟨rfl, ⟨hsz, hP, hK, hZ, hB, hBs⟩, hT⟩ := hv
  subst hsz
  have hts0 := atoms_spec (ws := .codeWith y cc maxL ret hh :: lw_g) Bd.pre
  have htab := vx_table (x := y) Bd (hts0 _ List.mem_cons_self)
  have hl := lv_entry args (n := maxL) hlen
  rw [lg_entry_eq]
  refine body p e s m below meth c (fr h s.heap.size) ⟨Bd.exec, Bd.bytes, hml, findClass_of_methodNamed Bd.named, fun w hw => hts0 w (List.mem_cons_of_mem _ hw), hK, hZ, fun q hq => Or.inr hq, fun q hq => ?_⟩ ⟨Bd.returns, Bd.notSynchronized, rfl⟩ hT htab _ s.heap [] hl hP (fun a x hx => Or.inl (by rw [hx]; exact fun z => by cases z)) va_S.rf
  rcases hq with hq | hq
  · cases hh : h q with
    | none => exact absurd hh hq
    | some x => exact hB _ _ hh
  · exact Nat.le_trans hBs hq
theorem ct_g : ∀ w ∈ va_wsS RL 21 yL_task (Cond.codeWith yL_task cL_task 8 (some .int) lH :: lw_g), w ∈ lw_g := by
  intro w hw
  rcases List.mem_append.mp hw with hw | hw
  · rcases List.mem_cons.mp hw with rfl | hw
    · exact lw_g_at 549 (by decide +kernel) (by decide +kernel)
    · rcases List.mem_cons.mp hw with rfl | hw
      · exact lw_g_at 550 (by decide +kernel) (by decide +kernel)
      · rw [List.mem_singleton.mp hw]
        exact lw_g_at 0 (by decide +kernel) (by decide +kernel)
  · rcases List.mem_cons.mp hw with rfl | hw
    · exact lw_g_at 551 (by decide +kernel) (by decide +kernel)
    · exact hw
theorem j_callST {p : Program} {l : Launch} {e : Env} {R : Room} {s : State} {m : MethodId} {args : Array Value} {below : List Frame} {meth : Method} {c : Code} {Q : State → Prop} {nL : Nat} {G : Gt} {A : Nat → Prop} {cells slots pc : Nat} {L : List (Nat × Value)} {st : List Value} {h : hF} {cc : ByteArray} {B sa : Nat} (hX : CX p s m args c cc nL RL G B A) (hT : TX B sa s s.heap) {d mc ms : Nat} {As : List Value} {post : Value → hF → Prop} (hct : CtT l G B sa yL_task cL_task 8 (some .int) lH d mc ms As h post) (hdg : decode cc pc = .ok (.invokestatic 21, 3)) (hn : As.length = 5) (hr : d + 1 ≤ R.frames ∧ 8 + (8 + 11) + 60 * d ≤ R.locals) (hf : cells + mc ≤ R.cells ∧ slots + ms ≤ R.slots) (hW : (st.map fun v => v.category).sum ≤ 8) (kk : ∀ (v : Value) (h' : hF), post v h' → J p l e R s m args below meth c Q nL G A (cells + mc) (slots + ms) (pc + 3) L (v :: st) h') {st0 : List Value} (hst : st0 = As.reverse ++ st) : J p l e R s m args below meth c Q nL G A cells slots pc L st0 h := by
  subst hst
  intro ls H locs hl hP hA hS
  have hts := hX.2.2.2.2.1
  have cw : vx_CSW R s args RL 21 yL_task cL_task 8 (some .int) lH (Cond.codeWith yL_task cL_task 8 (some .int) lH :: lw_g) (rmN d mc ms) mc ms 5 := vx_cwSW 5 hts (fun w hw => ⟨ct_g w hw, lw_g_good (ct_g w hw)⟩) rfl rfl rfl (by decide +kernel) hr
  refine run_v (vx_runSW (As := As) ⟨hX.1, hX.2.1, hX.2.2.1, hX.2.2.2.1, hts⟩ (hct H.size) cw ⟨WX.blind, fun U hU hW => ⟨rfl, WP.of hX hP hA hS U hU hW, hT.of hX.2.2.2.2.2.2.2.2 hS hU hW⟩⟩ rfl hn hl.1 rfl (lv_room hW) hdg hf) hX hA hS (fun v h' H1 locs1 hp hP1 hA1 hS1 => kk v h' hp ls H1 locs1 hl hP1 hA1 hS1)
theorem tskR_r {n : Nat} (hn : n ≤ 16) (x y r : Int) : -2147483648 ≤ tskR n x y r ∧ tskR n x y r < 2147483648 := by
  unfold tskR; (repeat' split) <;> omega
theorem hup_self {h : hF} {a : Nat} {e : va_E} (ha : h a = some e) : hup h a e = h := by
  funext b
  by_cases hb : b = a
  · rw [hb, hup_eq, ha]
  · rw [hup_ne hb]
set_option maxRecDepth 100000 in
set_option maxHeartbeats 4000000 in
theorem l_task {l : Launch} {G : Gt} {B : Nat} {h : hF} {AD : Nat → Nat} {σ : St} {n m : Nat} (hL : Cl G h AD σ n m) (hO : OK n m σ) {x : Int} (hx9 : -9223372036854775808 ≤ x ∧ x < 9223372036854775808) {y : Int} (hy9 : -9223372036854775808 ≤ y ∧ y < 9223372036854775808) {r : Int} (hr9 : -2147483648 ≤ r ∧ r < 2147483648) {bo : Nat} {fo : Nat → Int} (h_o : h bo = some (gJ G 1 fo)) (hbo : ∀ k : Nat, Lv n m k → AD k ≠ bo) (hflags : l.stackTraces = false) (sa : Nat) : CtT l G B sa yL_task cL_task 8 (some .int) lH 8 5 70 [.ref (AD 15), .long (lZ x), .long (lZ y), .int (iZ r), .ref bo] h (fun v h' => v = .int (iZ (tskH n x y r)) ∧ ∃ (h1 : hF) (AD2 : Nat → Nat) (fo2 : Nat → Int), Cl G h1 AD2 (tskT σ n x y r) (tskN n x y r) m ∧ Fn h h1 AD AD2 n m (tskN n x y r) m ∧ AD2 15 = AD 15 ∧ h' = hup h1 bo (gJ G 1 fo2) ∧ (tskH n x y r = 0 → fo2 0 = tskR n x y r)) := by
  refine CtT.of (by decide) (Nat.le_of_ble_eq_true rfl) ?_
  intro p e s m9 below meth c A hX hR hT htab
  have h_X := hL.1.2.1.2
  have h_Q := h_o
  by_cases hth : (1 ≤ x ∧ x ≤ 1000) ∧ y = 0 ∧ (0 ≤ r ∧ r ≤ 255) ∧ n ≠ 16
  · refine j_aload hX dL_task_0 rfl ?_
    refine j_iconst hX dL_task_2 ?_
    refine j_aload_n hX dL_task_3 rfl ?_
    refine j_lload_n hX dL_task_4 rfl ?_
    refine j_lload_n hX dL_task_5 rfl ?_
    refine j_iload hX dL_task_6 rfl ?_
    intro ls H locs hl hP hA hS
    have hts := hX.2.2.2.2.1
    have hrun := vx_runV (R := rmN 8 5 70) (cells := 0) (slots := 0) (locs := locs) (As := [.long (lZ x), .long (lZ y), .int (iZ r)]) (g := F0 m9 8 ls [.int (iZ r), .long (lZ y), .long (lZ x), .ref (AD 15), .int (iZ 0), .ref bo]) (rest := [.int (iZ 0), .ref bo]) (p := p) (e := e) (below := below) (meth := meth) ⟨hX.1, hX.2.1, hX.2.2.1, hX.2.2.2.1, hts⟩ (c_taskX (B := B) hL hO hx9 hy9 hr9 hth hflags sa H.size) ⟨cwB_use hts cv_L_7.1 (by exact ⟨Nat.le_of_ble_eq_true rfl, Nat.le_of_ble_eq_true rfl⟩), hts _ cv_L_7.2.1, hts _ cv_L_7.2.2⟩ ⟨WX.blind, va_recv hX.2.2.2.2.2.1.1 (hP.one h_X) (ci := 7) rfl (q0 := 0) rfl, fun U hU hW => ⟨rfl, WP.of hX hP hA hS U hU hW, hT.of hX.2.2.2.2.2.2.2.2 hS hU hW⟩⟩ rfl rfl hl.1 rfl (Nat.le_of_ble_eq_true rfl) dL_task_8 (by exact ⟨Nat.le_of_ble_eq_true rfl, Nat.le_of_ble_eq_true rfl⟩)
    have hsub : ∀ q, fr h H.size q → A q := by
      intro q hq
      rcases hq with hq | hq
      · cases hh : h q with
        | none => exact absurd hh hq
        | some x => exact hA _ _ hh
      · exact hX.2.2.2.2.2.2.2.1 _ (Nat.le_trans hS.1 hq)
    intro T hTh X
    rcases hrun T hTh X with ⟨v, st₀, t, T', Lc, h0, X', hLc, e1, e2, hq, stp⟩ | ⟨q, st₀, t, T', Lc, E, ce, h0, X', hLc, e1, e2, ⟨hE, hP', hFx⟩, hce, hcv, hcl, stp⟩
    · exact hq.elim
    · subst hE
      have e9 : st₀.heap.size = H.size := by rw [h0]
      have hz := hFx.1
      have hk := hFx.2
      rw [h0] at hz hk
      have hS1 : va_S A s.heap T'.heap (locs ++ Lc) := ⟨Nat.le_trans hS.1 (by rw [e1]; exact hz), fun q h1 h2 => by rw [e1, hk q (Nat.lt_of_lt_of_le h1 hS.1) (fun z => h2 (hsub q z))]; exact hS.2.1 q h1 h2, fun q hq => by
        rcases List.mem_append.mp hq with h | h
        · exact hS.2.2 q h
        · exact hsub _ (hLc q h)⟩
      have hj : J p l e (rmN 8 5 70) s m9 [.ref (AD 15), .long (lZ x), .long (lZ y), .int (iZ r), .ref bo].toArray below meth c (MQ below (QV G h (fun v h' => v = .int (iZ (tskH n x y r)) ∧ ∃ (h1 : hF) (AD2 : Nat → Nat) (fo2 : Nat → Int), Cl G h1 AD2 (tskT σ n x y r) (tskN n x y r) m ∧ Fn h h1 AD AD2 n m (tskN n x y r) m ∧ AD2 15 = AD 15 ∧ h' = hup h1 bo (gJ G 1 fo2) ∧ (tskH n x y r = 0 → fo2 0 = tskR n x y r))) [.ref (AD 15), .long (lZ x), .long (lZ y), .int (iZ r), .ref bo].toArray s 5 70 (fr h s.heap.size)) 8 G A (0 + 5) (0 + 70) 16 (lv_args 0 [.ref (AD 15), .long (lZ x), .long (lZ y), .int (iZ r), .ref bo]) [.ref q] h := by
          refine j_astore hX dL_task_16 (by decide) ?_
          refine j_iconst hX dL_task_18 ?_
          exact j_iret hX hR dL_task_19 ⟨by rw [tskH, if_pos hth], h, AD, fo, by rw [tskT, if_neg (by omega), tskN, if_neg (by omega)]; exact hL, by rw [tskN, if_neg (by omega)]; exact Fn.of (Fc.rf h AD n m), rfl, (hup_self h_o).symm, fun z => by rw [tskH, if_pos hth] at z; omega⟩
      have kk := vx_catch (Q := MQ below (QV G h (fun v h' => v = .int (iZ (tskH n x y r)) ∧ ∃ (h1 : hF) (AD2 : Nat → Nat) (fo2 : Nat → Int), Cl G h1 AD2 (tskT σ n x y r) (tskN n x y r) m ∧ Fn h h1 AD AD2 n m (tskN n x y r) m ∧ AD2 15 = AD 15 ∧ h' = hup h1 bo (gJ G 1 fo2) ∧ (tskH n x y r = 0 → fo2 0 = tskR n x y r))) [.ref (AD 15), .long (lZ x), .long (lZ y), .int (iZ r), .ref bo].toArray s 5 70 (fr h s.heap.size)) (p := p) (l := l) (e := e) (R := rmN 8 5 70) (below := below) (meth := meth) (args := [.ref (AD 15), .long (lZ x), .long (lZ y), .int (iZ r), .ref bo].toArray) (pc := 8) (rest := [.int (iZ 0), .ref bo]) (own := RL) (name := aeN) (E := aeN) (cells := 0 + 5) (slots := 0 + 70) (locs := locs ++ Lc) hX.2.2.2.1 [] ⟨0, 13, 16, 13⟩ [] htab (fun z hz => by simp at hz) (by decide) (by decide) (hts _ ae_lcl) (va_tabs rfl rfl hT.2.2.2.2) (by rw [e1]; exact hce) hcv hcl (hj ls T'.heap (locs ++ Lc) hl (by rw [e1]; exact hP') hA hS1)
      obtain ⟨t2, a1, b1⟩ := kk T' rfl X'
      exact ⟨t2, stp.trans a1, b1⟩
  · refine j_aload hX dL_task_0 rfl ?_
    refine j_iconst hX dL_task_2 ?_
    refine j_aload_n hX dL_task_3 rfl ?_
    refine j_lload_n hX dL_task_4 rfl ?_
    refine j_lload_n hX dL_task_5 rfl ?_
    refine j_iload hX dL_task_6 rfl ?_
    refine j_callV hX cv_L_7 (c_task hL hO hx9 hy9 hr9 hth) dL_task_8 h_X rfl rfl (by exact ⟨Nat.le_of_ble_eq_true rfl, Nat.le_of_ble_eq_true rfl⟩) (by exact ⟨Nat.le_of_ble_eq_true rfl, Nat.le_of_ble_eq_true rfl⟩) (by exact Nat.le_of_ble_eq_true rfl) (fun v8 h8 hp8 => ?_) rfl
    obtain ⟨rfl, AD2, hL2, hF, e15⟩ := hp8
    have h_Q : h8 bo = some (gJ G 1 fo) := (hF.1 bo (by rw [h_o]; exact fun z => by cases z) (fun k hk z => hbo k hk z.symm)).trans h_o
    refine j_i2l hX dL_task_11 (tskR_r hO.1 _ _ _) ?_
    refine j_lastN hX 0 rfl dL_task_12 h_Q (by omega) (by omega) ?_
    refine j_goto hX 20 dL_task_13 (by decide) ?_
    refine j_iconst hX dL_task_20 ?_
    exact j_iret hX hR dL_task_21 ⟨by rw [tskH, if_neg hth], h8, AD2, _, hL2, hF, e15, rfl, fun _ => zup_eq _ _ _⟩
