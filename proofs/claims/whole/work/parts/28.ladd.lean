/-! LISTS: add, with its growth -/
def CtM (l : Launch) (G : Gt) (B : Nat) (mi : Nat) (y : MethodName) (bytes : ByteArray) (maxL : Nat) (ret : Option FieldType) (d mc ms : Nat) (args : List Value) (h : hF) (post : Value → hF → Prop) : Prop := ∀ sz : Nat, Met l y (.code y bytes maxL ret :: lw_g) (rmN d mc ms) (va_Pc args (fun U => WP G B h sz U ∧ va_Mi "[Ljava/lang/Object;" mi U)) (QV G h post) mc ms (fr h sz)
theorem CtM.of {l : Launch} {G : Gt} {B mi : Nat} {y : MethodName} {cc : ByteArray} {maxL : Nat} {ret : Option FieldType} {d mc ms : Nat} {args : List Value} {h : hF} {post : Value → hF → Prop} (hy : plainName y.cls = true) (hlen : (lg_sl args).length ≤ maxL)
    (body : ∀ (p : Program) (e : Env) (s : State) (m : MethodId) (below : List Frame) (meth : Method) (c : Code) (A : Nat → Prop), CX p s m args.toArray c cc maxL y.cls G B A → RX meth ret A h s → va_Mi "[Ljava/lang/Object;" mi s →
      J p l e (rmN d mc ms) s m args.toArray below meth c (MQ below (QV G h post) args.toArray s mc ms (fr h s.heap.size)) maxL G A 0 0 0 (lv_args 0 args) [] h) : CtM l G B mi y cc maxL ret d mc ms args h post := by
  intro sz
  refine Met.ofW (cc := cc) (maxL := maxL) (ret := ret) hy rfl ?_
  intro p e s m args' below meth c s₁ Bd hml hv
  obtain ⟨rfl, ⟨hsz, hP, hK, hZ, hB, hBs⟩, hM⟩ := hv
  subst hsz
  have hts0 := atoms_spec (ws := .code y cc maxL ret :: lw_g) Bd.pre
  have hl := lv_entry args (n := maxL) hlen
  rw [lg_entry_eq]
  refine body p e s m below meth c (fr h s.heap.size) ⟨Bd.exec, Bd.bytes, hml, findClass_of_methodNamed Bd.named, fun w hw => hts0 w (List.mem_cons_of_mem _ hw), hK, hZ, fun q hq => Or.inr hq, fun q hq => ?_⟩ ⟨Bd.returns, Bd.notSynchronized, rfl⟩ hM _ s.heap [] hl hP (fun a x hx => Or.inl (by rw [hx]; exact fun z => by cases z)) va_S.rf
  rcases hq with hq | hq
  · cases hh : h q with
    | none => exact absurd hh hq
    | some x => exact hB _ _ hh
  · exact Nat.le_trans hBs hq
theorem j_callSM {p : Program} {l : Launch} {e : Env} {R : Room} {s : State} {m : MethodId} {args : Array Value} {below : List Frame} {meth : Method} {c : Code} {Q : State → Prop} {nL : Nat} {G : Gt} {A : Nat → Prop} {cells slots pc : Nat} {L : List (Nat × Value)} {st : List Value} {h : hF} {cc : ByteArray} {own : String} {B mi : Nat} (hX : CX p s m args c cc nL own G B A) (hM : va_Mi "[Ljava/lang/Object;" mi s) {i n maxL d mc ms : Nat} {y : MethodName} {bytes : ByteArray} {As : List Value} {ret : Option FieldType} {post : Value → hF → Prop} (hw : CwS own i y n bytes maxL ret) (hct : CtM l G B mi y bytes maxL ret d mc ms As h post) (hdg : decode cc pc = .ok (.invokestatic i, 3)) (hn : As.length = n) (hr : d + 1 ≤ R.frames ∧ 8 + (maxL + 11) + 60 * d ≤ R.locals) (hf : cells + mc ≤ R.cells ∧ slots + ms ≤ R.slots) (hW : (st.map fun v => v.category).sum ≤ 8) (kk : ∀ (v : Value) (h' : hF), post v h' → J p l e R s m args below meth c Q nL G A (cells + mc) (slots + ms) (pc + 3) L (v :: st) h') {st0 : List Value} (hst : st0 = As.reverse ++ st) : J p l e R s m args below meth c Q nL G A cells slots pc L st0 h := by
  subst hst
  intro ls H locs hl hP hA hS
  have hts := hX.2.2.2.2.1
  refine run_v (va_runS (As := As) ⟨hX.1, hX.2.1, hX.2.2.1, hX.2.2.2.1, hts⟩ (hct H.size) ⟨cwB_use hts hw.1 hr, hts _ hw.2⟩ ⟨fun a U g mk ⟨q0, q, qM⟩ => ⟨(WP.blind a U g mk ⟨q0, q⟩).1, (WP.blind a U g mk ⟨q0, q⟩).2, qM.moved (Vm.Alike.refl U.vm)⟩, fun U hU hW => ⟨rfl, WP.of hX hP hA hS U hU hW, hM.moved hW.alike⟩⟩ rfl hn hl.1 rfl (lv_room hW) hdg hf) hX hA hS (fun v h' H1 locs1 hp hP1 hA1 hS1 => kk v h' hp ls H1 locs1 hl hP1 hA1 hS1)
abbrev LF (mc : Int) (te : Nat) (n : Nat) : List Value := [.int (iZ mc), .ref te, .int (iZ (n : Int))]
set_option maxRecDepth 100000 in
set_option maxHeartbeats 4000000 in
theorem c_copyOf3 {l : Launch} {G : Gt} {B mi : Nat} {h : hF} {a0 n0 N : Nat} {f : Nat → Option Nat} (h_a0 : h a0 = some (gQ G n0 f)) (hn0 : n0 ≤ N) (hN : N ≤ 22) (hel : ∀ i : Nat, i < n0 → ∀ y : Nat, f i = some y → ∃ fs, h y = some (.inr (6, fs))) : CtM l G B mi yJ7_copyOf_6403c cJ7_copyOf_6403c 4 (some (.array (.object "java/lang/Object"))) 1 1 22 [.ref a0, .int (iZ (N : Int)), .ref mi] h (fun v h' => ∃ q : Nat, v = .ref q ∧ h q = none ∧ h' = hup h q (gQ G N (va_cpy f (fun _ => none) 0 0 n0))) := by
  refine CtM.of (by decide) (Nat.le_of_ble_eq_true rfl) ?_
  intro p e s m9 below meth c A hX hR hM
  refine j_aload_n hX dJ7_copyOf_6403c_0 rfl ?_
  refine j_ldcM hX hM dJ7_copyOf_6403c_1 ?_
  refine j_acmp_ne hX 13 dJ7_copyOf_6403c_3 (by decide) (fun c3 => absurd c3 (by exact fun z => z rfl)) (fun c3 => ?_)
  refine j_iload_n hX dJ7_copyOf_6403c_6 rfl ?_
  refine j_anewO hX ck_J7_2 dJ7_copyOf_6403c_7 (by omega) ⟨Nat.le_of_ble_eq_true rfl, by show 0 + N ≤ 22; omega⟩ (fun q7 hq7 => ?_)
  refine j_wide (k := 1) (n := 22) (by omega) (by omega) ?_
  have h_q : hup h q7 (gQ G N (fun _ => none)) q7 = _ := hup_eq _ _ _
  have hne : a0 ≠ q7 := fun z => by subst z; rw [hq7] at h_a0; cases h_a0
  have h_a0 : hup h q7 (gQ G N (fun _ => none)) a0 = _ := (hup_ne hne).trans h_a0
  refine j_goto hX 24 dJ7_copyOf_6403c_10 (by decide) ?_
  refine j_astore_n hX dJ7_copyOf_6403c_24 (by decide) ?_
  refine j_aload_n hX dJ7_copyOf_6403c_25 rfl ?_
  refine j_iconst hX dJ7_copyOf_6403c_26 ?_
  refine j_aload_n hX dJ7_copyOf_6403c_27 rfl ?_
  refine j_iconst hX dJ7_copyOf_6403c_28 ?_
  refine j_aload_n hX dJ7_copyOf_6403c_29 rfl ?_
  refine j_alenQ hX dJ7_copyOf_6403c_30 h_a0 ?_
  refine j_iload_n hX dJ7_copyOf_6403c_31 rfl ?_
  refine j_imin hX mx_J7_304.1 mx_J7_304.2.1 mx_J7_304.2.2.1 mx_J7_304.2.2.2 dJ7_copyOf_6403c_32 (by omega) (by omega) (by exact ⟨Nat.le_of_ble_eq_true rfl, Nat.le_of_ble_eq_true rfl⟩) (by exact ⟨Nat.le_of_ble_eq_true rfl, Nat.le_of_ble_eq_true rfl⟩) ?_
  rw [if_neg (by omega)]
  refine j_copyO hX dJ7_copyOf_6403c_35 h_a0 h_q (Nat.le_refl _) (by omega) (by omega) (fun i hi y hy => by obtain ⟨fs, hfs⟩ := hel i hi y hy; exact ⟨fs, (hup_ne (fun z => by subst z; rw [hq7] at hfs; cases hfs)).trans hfs⟩) (by exact ⟨Nat.le_of_ble_eq_true rfl, Nat.le_of_ble_eq_true rfl⟩) ?_
  refine j_aload_n hX dJ7_copyOf_6403c_38 rfl ?_
  exact j_aret hX hR (Or.inr ⟨_, rfl⟩) dJ7_copyOf_6403c_39 (Or.inr ⟨_, rfl⟩) ⟨q7, rfl, hq7, hup_hup _ _ _ _⟩
set_option maxRecDepth 100000 in
set_option maxHeartbeats 4000000 in
theorem c_copyOf2 {l : Launch} {G : Gt} {B : Nat} {h : hF} {a0 n0 N : Nat} {f : Nat → Option Nat} (h_a0 : h a0 = some (gQ G n0 f)) (hn0 : n0 ≤ N) (hN : N ≤ 22) (hel : ∀ i : Nat, i < n0 → ∀ y : Nat, f i = some y → ∃ fs, h y = some (.inr (6, fs))) : Ct l G B yJ7_copyOf_1904c cJ7_copyOf_1904c 2 (some (.array (.object "java/lang/Object"))) 2 1 22 [.ref a0, .int (iZ (N : Int))] h (fun v h' => ∃ q : Nat, v = .ref q ∧ h q = none ∧ h' = hup h q (gQ G N (va_cpy f (fun _ => none) 0 0 n0))) := by
  refine Ct.of (by decide) (Nat.le_of_ble_eq_true rfl) ?_
  intro p e s m9 below meth c A hX hR hin
  obtain ⟨mi, hM⟩ := hX.2.2.2.2.2.1.2.2.2.2.2.2
  refine j_aload_n hX dJ7_copyOf_1904c_0 rfl ?_
  refine j_iload_n hX dJ7_copyOf_1904c_1 rfl ?_
  refine j_aload_n hX dJ7_copyOf_1904c_2 rfl ?_
  refine j_getC hX hM h_a0 dJ7_copyOf_1904c_3 (by exact ⟨Nat.le_of_ble_eq_true rfl, Nat.le_of_ble_eq_true rfl⟩) ?_
  refine j_callSM hX hM cs_J7_300 (c_copyOf3 h_a0 hn0 hN hel) dJ7_copyOf_1904c_6 rfl (by exact ⟨Nat.le_of_ble_eq_true rfl, Nat.le_of_ble_eq_true rfl⟩) (by exact ⟨Nat.le_of_ble_eq_true rfl, Nat.le_of_ble_eq_true rfl⟩) (by exact Nat.le_of_ble_eq_true rfl) (fun v6 h6 hp6 => ?_) rfl
  obtain ⟨q6, rfl, hq6, rfl⟩ := hp6
  exact j_aret hX hR (Or.inr ⟨_, rfl⟩) dJ7_copyOf_1904c_9 (Or.inr ⟨_, rfl⟩) ⟨q6, rfl, hq6, rfl⟩
set_option maxRecDepth 100000 in
set_option maxHeartbeats 4000000 in
theorem c_newLength {l : Launch} {G : Gt} {B : Nat} {h : hF} {o q : Int} (ho : 1 ≤ o ∧ o ≤ 1000) (hq : 1 ≤ q ∧ q ≤ 1000) : Ct l G B yJ8_newLength_cabcc cJ8_newLength_cabcc 4 (some .int) 1 0 0 [.int (iZ o), .int (iZ 1), .int (iZ q)] h (fun v h' => v = .int (iZ (o + q)) ∧ h = h') := by
  refine Ct.of (by decide) (Nat.le_of_ble_eq_true rfl) ?_
  intro p e s m9 below meth c A hX hR hin
  refine j_iload_n hX dJ8_newLength_cabcc_0 rfl ?_
  refine j_iload_n hX dJ8_newLength_cabcc_1 rfl ?_
  refine j_iload_n hX dJ8_newLength_cabcc_2 rfl ?_
  refine j_imax hX mx_J8_194.1 mx_J8_194.2.1 mx_J8_194.2.2.1 mx_J8_194.2.2.2 dJ8_newLength_cabcc_3 (by omega) (by omega) (by exact ⟨Nat.le_of_ble_eq_true rfl, Nat.le_of_ble_eq_true rfl⟩) (by exact ⟨Nat.le_of_ble_eq_true rfl, Nat.le_of_ble_eq_true rfl⟩) ?_
  have e9 : (if 1 < q then q else 1) = q := by split <;> omega
  rw [e9]
  refine j_iadd hX dJ8_newLength_cabcc_6 ?_
  refine j_istore_n hX dJ8_newLength_cabcc_7 (by decide) ?_
  refine j_iconst hX dJ8_newLength_cabcc_8 ?_
  refine j_iload_n hX dJ8_newLength_cabcc_9 rfl ?_
  refine j_icmp_ge hX 21 dJ8_newLength_cabcc_10 (by decide) (by omega) (by omega) (fun c10 => absurd c10 (by omega)) (fun c10 => ?_)
  refine j_iload_n hX dJ8_newLength_cabcc_13 rfl ?_
  refine j_ldc hX k_J8_200 (z := 2147483639) (by decide) dJ8_newLength_cabcc_14 ?_
  refine j_icmp_gt hX 21 dJ8_newLength_cabcc_16 (by decide) (by omega) (by omega) (fun c16 => absurd c16 (by omega)) (fun c16 => ?_)
  refine j_iload_n hX dJ8_newLength_cabcc_19 rfl ?_
  exact j_iret hX hR dJ8_newLength_cabcc_20 ⟨rfl, rfl⟩
set_option maxRecDepth 100000 in
set_option maxHeartbeats 4000000 in
theorem c_grow10i {l : Launch} {G : Gt} {B : Nat} {h : hF} {tl te : Nat} {mc : Int} {f : Nat → Option Nat} (h_L : h tl = some (.inr (1, LF mc te 10))) (h_E : h te = some (gQ G 10 f)) (hel : ∀ i : Nat, i < 10 → ∀ y : Nat, f i = some y → ∃ fs, h y = some (.inr (6, fs))) : Ct l G B yJx4a65c_grow_92f84 cJx4a65c_grow_92f84 4 (some (.array (.object "java/lang/Object"))) 3 1 22 [.ref tl, .int (iZ 11)] h (fun v h' => ∃ q : Nat, v = .ref q ∧ h q = none ∧ h' = hup (hup h q (gQ G 15 (va_cpy f (fun _ => none) 0 0 10))) tl (.inr (1, LF mc q 10))) := by
  refine Ct.of (by decide) (Nat.le_of_ble_eq_true rfl) ?_
  intro p e s m9 below meth c A hX hR hin
  refine j_aload_n hX dJx4a65c_grow_92f84_0 rfl ?_
  refine j_get hX fl_Jx4a65c_9_1 dJx4a65c_grow_92f84_1 h_L (by rfl) ?_
  refine j_alenQ hX dJx4a65c_grow_92f84_4 h_E ?_
  refine j_istore_n hX dJx4a65c_grow_92f84_5 (by decide) ?_
  refine j_iload_n hX dJx4a65c_grow_92f84_6 rfl ?_
  refine j_if_gt hX 20 dJx4a65c_grow_92f84_7 (by decide) (by omega) (fun c7 => ?_) (fun c7 => absurd c7 (by omega))
  refine j_iload_n hX dJx4a65c_grow_92f84_20 rfl ?_
  refine j_iload_n hX dJx4a65c_grow_92f84_21 rfl ?_
  refine j_iload_n hX dJx4a65c_grow_92f84_22 rfl ?_
  refine j_isub hX dJx4a65c_grow_92f84_23 ?_
  refine j_iload_n hX dJx4a65c_grow_92f84_24 rfl ?_
  refine j_iconst hX dJx4a65c_grow_92f84_25 ?_
  refine j_ishr hX (z := 5) dJx4a65c_grow_92f84_26 (by decide) ?_
  refine j_callS hX cs_Jx4a65c_73 (c_newLength (o := 10) (q := 5) (by omega) (by omega)) dJx4a65c_grow_92f84_27 rfl (by exact ⟨Nat.le_of_ble_eq_true rfl, Nat.le_of_ble_eq_true rfl⟩) (by exact ⟨Nat.le_of_ble_eq_true rfl, Nat.le_of_ble_eq_true rfl⟩) (by exact Nat.le_of_ble_eq_true rfl) (fun v27 h27 hp27 => ?_) rfl
  obtain ⟨rfl, rfl⟩ := hp27
  refine j_istore_n hX dJx4a65c_grow_92f84_30 (by decide) ?_
  refine j_aload_n hX dJx4a65c_grow_92f84_31 rfl ?_
  refine j_aload_n hX dJx4a65c_grow_92f84_32 rfl ?_
  refine j_get hX fl_Jx4a65c_9_1 dJx4a65c_grow_92f84_33 h_L (by rfl) ?_
  refine j_iload_n hX dJx4a65c_grow_92f84_36 rfl ?_
  refine j_callS hX cs_Jx4a65c_66 (c_copyOf2 (N := 15) h_E (by omega) (by omega) hel) dJx4a65c_grow_92f84_37 rfl (by exact ⟨Nat.le_of_ble_eq_true rfl, Nat.le_of_ble_eq_true rfl⟩) (by exact ⟨Nat.le_of_ble_eq_true rfl, Nat.le_of_ble_eq_true rfl⟩) (by exact Nat.le_of_ble_eq_true rfl) (fun v37 h37 hp37 => ?_) rfl
  obtain ⟨q37, rfl, hq37, rfl⟩ := hp37
  have h_L : hup h q37 (gQ G 15 (va_cpy f (fun _ => none) 0 0 10)) tl = _ := (hup_ne (fun z => by subst z; rw [hq37] at h_L; cases h_L)).trans h_L
  refine j_dup_x1 hX dJx4a65c_grow_92f84_40 rfl rfl ?_
  refine j_putE hX fp_Jx4a65c_9_1 dJx4a65c_grow_92f84_41 h_L rfl rfl (Nat.le_of_ble_eq_true rfl) (fs2 := (LF mc q37 10)) rfl ?_
  exact j_aret hX hR (Or.inr ⟨_, rfl⟩) dJx4a65c_grow_92f84_44 (Or.inr ⟨_, rfl⟩) ⟨q37, rfl, hq37, rfl⟩
set_option maxRecDepth 100000 in
set_option maxHeartbeats 4000000 in
theorem c_grow15i {l : Launch} {G : Gt} {B : Nat} {h : hF} {tl te : Nat} {mc : Int} {f : Nat → Option Nat} (h_L : h tl = some (.inr (1, LF mc te 15))) (h_E : h te = some (gQ G 15 f)) (hel : ∀ i : Nat, i < 15 → ∀ y : Nat, f i = some y → ∃ fs, h y = some (.inr (6, fs))) : Ct l G B yJx4a65c_grow_92f84 cJx4a65c_grow_92f84 4 (some (.array (.object "java/lang/Object"))) 3 1 22 [.ref tl, .int (iZ 16)] h (fun v h' => ∃ q : Nat, v = .ref q ∧ h q = none ∧ h' = hup (hup h q (gQ G 22 (va_cpy f (fun _ => none) 0 0 15))) tl (.inr (1, LF mc q 15))) := by
  refine Ct.of (by decide) (Nat.le_of_ble_eq_true rfl) ?_
  intro p e s m9 below meth c A hX hR hin
  refine j_aload_n hX dJx4a65c_grow_92f84_0 rfl ?_
  refine j_get hX fl_Jx4a65c_9_1 dJx4a65c_grow_92f84_1 h_L (by rfl) ?_
  refine j_alenQ hX dJx4a65c_grow_92f84_4 h_E ?_
  refine j_istore_n hX dJx4a65c_grow_92f84_5 (by decide) ?_
  refine j_iload_n hX dJx4a65c_grow_92f84_6 rfl ?_
  refine j_if_gt hX 20 dJx4a65c_grow_92f84_7 (by decide) (by omega) (fun c7 => ?_) (fun c7 => absurd c7 (by omega))
  refine j_iload_n hX dJx4a65c_grow_92f84_20 rfl ?_
  refine j_iload_n hX dJx4a65c_grow_92f84_21 rfl ?_
  refine j_iload_n hX dJx4a65c_grow_92f84_22 rfl ?_
  refine j_isub hX dJx4a65c_grow_92f84_23 ?_
  refine j_iload_n hX dJx4a65c_grow_92f84_24 rfl ?_
  refine j_iconst hX dJx4a65c_grow_92f84_25 ?_
  refine j_ishr hX (z := 7) dJx4a65c_grow_92f84_26 (by decide) ?_
  refine j_callS hX cs_Jx4a65c_73 (c_newLength (o := 15) (q := 7) (by omega) (by omega)) dJx4a65c_grow_92f84_27 rfl (by exact ⟨Nat.le_of_ble_eq_true rfl, Nat.le_of_ble_eq_true rfl⟩) (by exact ⟨Nat.le_of_ble_eq_true rfl, Nat.le_of_ble_eq_true rfl⟩) (by exact Nat.le_of_ble_eq_true rfl) (fun v27 h27 hp27 => ?_) rfl
  obtain ⟨rfl, rfl⟩ := hp27
  refine j_istore_n hX dJx4a65c_grow_92f84_30 (by decide) ?_
  refine j_aload_n hX dJx4a65c_grow_92f84_31 rfl ?_
  refine j_aload_n hX dJx4a65c_grow_92f84_32 rfl ?_
  refine j_get hX fl_Jx4a65c_9_1 dJx4a65c_grow_92f84_33 h_L (by rfl) ?_
  refine j_iload_n hX dJx4a65c_grow_92f84_36 rfl ?_
  refine j_callS hX cs_Jx4a65c_66 (c_copyOf2 (N := 22) h_E (by omega) (by omega) hel) dJx4a65c_grow_92f84_37 rfl (by exact ⟨Nat.le_of_ble_eq_true rfl, Nat.le_of_ble_eq_true rfl⟩) (by exact ⟨Nat.le_of_ble_eq_true rfl, Nat.le_of_ble_eq_true rfl⟩) (by exact Nat.le_of_ble_eq_true rfl) (fun v37 h37 hp37 => ?_) rfl
  obtain ⟨q37, rfl, hq37, rfl⟩ := hp37
  have h_L : hup h q37 (gQ G 22 (va_cpy f (fun _ => none) 0 0 15)) tl = _ := (hup_ne (fun z => by subst z; rw [hq37] at h_L; cases h_L)).trans h_L
  refine j_dup_x1 hX dJx4a65c_grow_92f84_40 rfl rfl ?_
  refine j_putE hX fp_Jx4a65c_9_1 dJx4a65c_grow_92f84_41 h_L rfl rfl (Nat.le_of_ble_eq_true rfl) (fs2 := (LF mc q37 15)) rfl ?_
  exact j_aret hX hR (Or.inr ⟨_, rfl⟩) dJx4a65c_grow_92f84_44 (Or.inr ⟨_, rfl⟩) ⟨q37, rfl, hq37, rfl⟩
set_option maxRecDepth 100000 in
set_option maxHeartbeats 4000000 in
theorem c_growDi {l : Launch} {G : Gt} {B : Nat} {h : hF} {tl : Nat} {mc : Int} (h_L : h tl = some (.inr (1, LF mc G.2.2 0))) : Ct l G B yJx4a65c_grow_92f84 cJx4a65c_grow_92f84 4 (some (.array (.object "java/lang/Object"))) 3 1 22 [.ref tl, .int (iZ 1)] h (fun v h' => ∃ q : Nat, v = .ref q ∧ h q = none ∧ h' = hup (hup h q (gQ G 10 (fun _ => none))) tl (.inr (1, LF mc q 0))) := by
  refine Ct.of (by decide) (Nat.le_of_ble_eq_true rfl) ?_
  intro p e s m9 below meth c A hX hR hin
  refine j_aload_n hX dJx4a65c_grow_92f84_0 rfl ?_
  refine j_get hX fl_Jx4a65c_9_1 dJx4a65c_grow_92f84_1 h_L (by rfl) ?_
  refine j_alenD hX dJx4a65c_grow_92f84_4 ?_
  refine j_istore_n hX dJx4a65c_grow_92f84_5 (by decide) ?_
  refine j_iload_n hX dJx4a65c_grow_92f84_6 rfl ?_
  refine j_if_gt hX 20 dJx4a65c_grow_92f84_7 (by decide) (by omega) (fun c7 => absurd c7 (by omega)) (fun c7 => ?_)
  refine j_aload_n hX dJx4a65c_grow_92f84_10 rfl ?_
  refine j_get hX fl_Jx4a65c_9_1 dJx4a65c_grow_92f84_11 h_L (by rfl) ?_
  refine j_getDef hX dJx4a65c_grow_92f84_14 ?_
  refine j_acmp_eq hX 45 dJx4a65c_grow_92f84_17 (by decide) (fun c17 => ?_) (fun c17 => absurd c17 (by exact fun z => z rfl))
  refine j_aload_n hX dJx4a65c_grow_92f84_45 rfl ?_
  refine j_bipush hX dJx4a65c_grow_92f84_46 (by decide) ?_
  refine j_iload_n hX dJx4a65c_grow_92f84_48 rfl ?_
  refine j_imax hX mx_Jx4a65c_79.1 mx_Jx4a65c_79.2.1 mx_Jx4a65c_79.2.2.1 mx_Jx4a65c_79.2.2.2 dJx4a65c_grow_92f84_49 (by omega) (by omega) (by exact ⟨Nat.le_of_ble_eq_true rfl, Nat.le_of_ble_eq_true rfl⟩) (by exact ⟨Nat.le_of_ble_eq_true rfl, Nat.le_of_ble_eq_true rfl⟩) ?_
  have e9 : (if (10 : Int) < 1 then (1 : Int) else 10) = ((10 : Nat) : Int) := rfl
  rw [e9]
  refine j_anewO hX ck_Jx4a65c_7 dJx4a65c_grow_92f84_52 (by omega) ⟨Nat.le_of_ble_eq_true rfl, Nat.le_of_ble_eq_true rfl⟩ (fun q52 hq52 => ?_)
  have h_L : hup h q52 (gQ G 10 (fun _ => none)) tl = _ := (hup_ne (fun z => by subst z; rw [hq52] at h_L; cases h_L)).trans h_L
  refine j_dup_x1 hX dJx4a65c_grow_92f84_55 rfl rfl ?_
  refine j_putE hX fp_Jx4a65c_9_1 dJx4a65c_grow_92f84_56 h_L rfl rfl (Nat.le_of_ble_eq_true rfl) (fs2 := (LF mc q52 0)) rfl ?_
  refine j_wide (k := 1) (n := 22) (by first | omega | exact Nat.le_of_ble_eq_true rfl) (by first | omega | exact Nat.le_of_ble_eq_true rfl) ?_
  exact j_aret hX hR (Or.inr ⟨_, rfl⟩) dJx4a65c_grow_92f84_59 (Or.inr ⟨_, rfl⟩) ⟨q52, rfl, hq52, rfl⟩
set_option maxRecDepth 100000 in
set_option maxHeartbeats 4000000 in
theorem c_growD {l : Launch} {G : Gt} {B : Nat} {h : hF} {tl : Nat} {mc : Int} (h_L : h tl = some (.inr (1, LF mc G.2.2 0)))  : Ct l G B yJx4a65c_grow_d5877 cJx4a65c_grow_d5877 1 (some (.array (.object "java/lang/Object"))) 4 1 22 [.ref tl] h (fun v h' => ∃ q : Nat, v = .ref q ∧ h q = none ∧ h' = hup (hup h q (gQ G 10 (fun _ => none))) tl (.inr (1, LF mc q 0))) := by
  refine Ct.of (by decide) (Nat.le_of_ble_eq_true rfl) ?_
  intro p e s m9 below meth c A hX hR hin
  refine j_aload_n hX dJx4a65c_grow_d5877_0 rfl ?_
  refine j_aload_n hX dJx4a65c_grow_d5877_1 rfl ?_
  refine j_get hX fl_Jx4a65c_48_1 dJx4a65c_grow_d5877_2 h_L (by rfl) ?_
  refine j_iconst hX dJx4a65c_grow_d5877_5 ?_
  refine j_iadd hX dJx4a65c_grow_d5877_6 ?_
  refine j_callV hX cv_Jx4a65c_69 (c_growDi h_L) dJx4a65c_grow_d5877_7 h_L rfl rfl (by exact ⟨Nat.le_of_ble_eq_true rfl, Nat.le_of_ble_eq_true rfl⟩) (by exact ⟨Nat.le_of_ble_eq_true rfl, Nat.le_of_ble_eq_true rfl⟩) (by exact Nat.le_of_ble_eq_true rfl) (fun v7 h7 hp7 => ?_) rfl
  obtain ⟨q7, rfl, hq7, rfl⟩ := hp7
  exact j_aret hX hR (Or.inr ⟨_, rfl⟩) dJx4a65c_grow_d5877_10 (Or.inr ⟨_, rfl⟩) ⟨q7, rfl, hq7, rfl⟩
set_option maxRecDepth 100000 in
set_option maxHeartbeats 4000000 in
theorem c_grow10 {l : Launch} {G : Gt} {B : Nat} {h : hF} {tl te : Nat} {mc : Int} {f : Nat → Option Nat} (h_L : h tl = some (.inr (1, LF mc te 10))) (h_E : h te = some (gQ G 10 f)) (hel : ∀ i : Nat, i < 10 → ∀ y : Nat, f i = some y → ∃ fs, h y = some (.inr (6, fs))) : Ct l G B yJx4a65c_grow_d5877 cJx4a65c_grow_d5877 1 (some (.array (.object "java/lang/Object"))) 4 1 22 [.ref tl] h (fun v h' => ∃ q : Nat, v = .ref q ∧ h q = none ∧ h' = hup (hup h q (gQ G 15 (va_cpy f (fun _ => none) 0 0 10))) tl (.inr (1, LF mc q 10))) := by
  refine Ct.of (by decide) (Nat.le_of_ble_eq_true rfl) ?_
  intro p e s m9 below meth c A hX hR hin
  refine j_aload_n hX dJx4a65c_grow_d5877_0 rfl ?_
  refine j_aload_n hX dJx4a65c_grow_d5877_1 rfl ?_
  refine j_get hX fl_Jx4a65c_48_1 dJx4a65c_grow_d5877_2 h_L (by rfl) ?_
  refine j_iconst hX dJx4a65c_grow_d5877_5 ?_
  refine j_iadd hX dJx4a65c_grow_d5877_6 ?_
  refine j_callV hX cv_Jx4a65c_69 (c_grow10i h_L h_E hel) dJx4a65c_grow_d5877_7 h_L rfl rfl (by exact ⟨Nat.le_of_ble_eq_true rfl, Nat.le_of_ble_eq_true rfl⟩) (by exact ⟨Nat.le_of_ble_eq_true rfl, Nat.le_of_ble_eq_true rfl⟩) (by exact Nat.le_of_ble_eq_true rfl) (fun v7 h7 hp7 => ?_) rfl
  obtain ⟨q7, rfl, hq7, rfl⟩ := hp7
  exact j_aret hX hR (Or.inr ⟨_, rfl⟩) dJx4a65c_grow_d5877_10 (Or.inr ⟨_, rfl⟩) ⟨q7, rfl, hq7, rfl⟩
set_option maxRecDepth 100000 in
set_option maxHeartbeats 4000000 in
theorem c_grow15 {l : Launch} {G : Gt} {B : Nat} {h : hF} {tl te : Nat} {mc : Int} {f : Nat → Option Nat} (h_L : h tl = some (.inr (1, LF mc te 15))) (h_E : h te = some (gQ G 15 f)) (hel : ∀ i : Nat, i < 15 → ∀ y : Nat, f i = some y → ∃ fs, h y = some (.inr (6, fs))) : Ct l G B yJx4a65c_grow_d5877 cJx4a65c_grow_d5877 1 (some (.array (.object "java/lang/Object"))) 4 1 22 [.ref tl] h (fun v h' => ∃ q : Nat, v = .ref q ∧ h q = none ∧ h' = hup (hup h q (gQ G 22 (va_cpy f (fun _ => none) 0 0 15))) tl (.inr (1, LF mc q 15))) := by
  refine Ct.of (by decide) (Nat.le_of_ble_eq_true rfl) ?_
  intro p e s m9 below meth c A hX hR hin
  refine j_aload_n hX dJx4a65c_grow_d5877_0 rfl ?_
  refine j_aload_n hX dJx4a65c_grow_d5877_1 rfl ?_
  refine j_get hX fl_Jx4a65c_48_1 dJx4a65c_grow_d5877_2 h_L (by rfl) ?_
  refine j_iconst hX dJx4a65c_grow_d5877_5 ?_
  refine j_iadd hX dJx4a65c_grow_d5877_6 ?_
  refine j_callV hX cv_Jx4a65c_69 (c_grow15i h_L h_E hel) dJx4a65c_grow_d5877_7 h_L rfl rfl (by exact ⟨Nat.le_of_ble_eq_true rfl, Nat.le_of_ble_eq_true rfl⟩) (by exact ⟨Nat.le_of_ble_eq_true rfl, Nat.le_of_ble_eq_true rfl⟩) (by exact Nat.le_of_ble_eq_true rfl) (fun v7 h7 hp7 => ?_) rfl
  obtain ⟨q7, rfl, hq7, rfl⟩ := hp7
  exact j_aret hX hR (Or.inr ⟨_, rfl⟩) dJx4a65c_grow_d5877_10 (Or.inr ⟨_, rfl⟩) ⟨q7, rfl, hq7, rfl⟩
set_option maxRecDepth 100000 in
set_option maxHeartbeats 4000000 in
theorem c_add3R {l : Launch} {G : Gt} {B : Nat} {h : hF} {tl te : Nat} {mc : Int} {f : Nat → Option Nat} {cap k : Nat} (h_L : h tl = some (.inr (1, LF mc te k))) (h_E : h te = some (gQ G cap f)) (hk : k < cap) (hcap : cap ≤ 100) {v ci : Nat} {fs : List Value} {C : String} {T : u_T} {N : Nat} (h_v : h v = some (.inr (ci, fs))) (hci : vwCl[ci]? = some (C, T, N)) (hC9 : C ∈ (["AnswerSums$Task", "AnswerSums$Part"] : List String)) : Cv l G B yJx4a65c_add_72be8 cJx4a65c_add_72be8 4 5 1 22 [.ref tl, .ref v, .ref te, .int (iZ (k : Int))] h (fun h' => h' = hup (hup h te (gQ G cap (va_up f k (some v)))) tl (.inr (1, LF mc te (k + 1)))) := by
  refine Cv.of (by decide) (Nat.le_of_ble_eq_true rfl) ?_
  intro p e s m9 below meth c A hX hR hin
  refine j_iload_n hX dJx4a65c_add_72be8_0 rfl ?_
  refine j_aload_n hX dJx4a65c_add_72be8_1 rfl ?_
  refine j_alenQ hX dJx4a65c_add_72be8_2 h_E ?_
  refine j_icmp_ne hX 11 dJx4a65c_add_72be8_3 (by decide) (by omega) (by omega) (fun c3 => ?_) (fun c3 => absurd c3 (by omega))
  refine j_aload_n hX dJx4a65c_add_72be8_11 rfl ?_
  refine j_iload_n hX dJx4a65c_add_72be8_12 rfl ?_
  refine j_aload_n hX dJx4a65c_add_72be8_13 rfl ?_
  refine j_aastO hX k rfl dJx4a65c_add_72be8_14 h_E h_v hci hC9 (by omega) (by omega) ?_
  have h_L : (hup h te (gQ G cap (va_up f k (some v)))) tl = _ := (hup_ne (fun z => by subst z; rw [h_E] at h_L; cases h_L)).trans h_L
  refine j_aload_n hX dJx4a65c_add_72be8_15 rfl ?_
  refine j_iload_n hX dJx4a65c_add_72be8_16 rfl ?_
  refine j_iconst hX dJx4a65c_add_72be8_17 ?_
  refine j_iadd hX dJx4a65c_add_72be8_18 ?_
  refine j_putE hX fp_Jx4a65c_48_1 dJx4a65c_add_72be8_19 h_L rfl rfl (Nat.le_of_ble_eq_true rfl) (fs2 := (LF mc te (k + 1))) rfl ?_
  refine j_wide (k := 1) (n := 22) (by first | omega | exact Nat.le_of_ble_eq_true rfl) (by first | omega | exact Nat.le_of_ble_eq_true rfl) ?_
  exact j_vret hX hR dJx4a65c_add_72be8_22 rfl
set_option maxRecDepth 100000 in
set_option maxHeartbeats 4000000 in
theorem c_add3D {l : Launch} {G : Gt} {B : Nat} {h : hF} {tl : Nat} {mc : Int} (h_L : h tl = some (.inr (1, LF mc G.2.2 0)))  {v ci : Nat} {fs : List Value} {C : String} {T : u_T} {N : Nat} (h_v : h v = some (.inr (ci, fs))) (hci : vwCl[ci]? = some (C, T, N)) (hC9 : C ∈ (["AnswerSums$Task", "AnswerSums$Part"] : List String)) : Cv l G B yJx4a65c_add_72be8 cJx4a65c_add_72be8 4 5 1 22 [.ref tl, .ref v, .ref G.2.2, .int (iZ 0)] h (fun h' => ∃ q7 : Nat, h q7 = none ∧ h' = hup (hup (hup (hup h q7 (gQ G 10 (fun _ => none))) tl (.inr (1, LF mc q7 0))) q7 (gQ G 10 (va_up (fun _ => none) 0 (some v)))) tl (.inr (1, LF mc q7 1))) := by
  refine Cv.of (by decide) (Nat.le_of_ble_eq_true rfl) ?_
  intro p e s m9 below meth c A hX hR hin
  refine j_iload_n hX dJx4a65c_add_72be8_0 rfl ?_
  refine j_aload_n hX dJx4a65c_add_72be8_1 rfl ?_
  refine j_alenD hX dJx4a65c_add_72be8_2 ?_
  refine j_icmp_ne hX 11 dJx4a65c_add_72be8_3 (by decide) (by omega) (by omega) (fun c3 => absurd c3 (by exact fun z => z rfl)) (fun c3 => ?_)
  refine j_aload_n hX dJx4a65c_add_72be8_6 rfl ?_
  refine j_callV hX cv_Jx4a65c_129 (c_growD h_L) dJx4a65c_add_72be8_7 h_L rfl rfl (by exact ⟨Nat.le_of_ble_eq_true rfl, Nat.le_of_ble_eq_true rfl⟩) (by exact ⟨Nat.le_of_ble_eq_true rfl, Nat.le_of_ble_eq_true rfl⟩) (by exact Nat.le_of_ble_eq_true rfl) (fun v7 h7 hp7 => ?_) rfl
  obtain ⟨q7, rfl, hq7, rfl⟩ := hp7
  have hqt : tl ≠ q7 := fun z => by subst z; rw [hq7] at h_L; cases h_L
  have h_Q7 : (hup (hup h q7 (gQ G 10 (fun _ => none))) tl (.inr (1, LF mc q7 0))) q7 = some (gQ G 10 (fun _ => none)) := (hup_ne hqt.symm).trans (hup_eq _ _ _)
  have h_v : (hup (hup h q7 (gQ G 10 (fun _ => none))) tl (.inr (1, LF mc q7 0))) v = _ := (hup_ne (fun z => by subst z; rw [h_v] at h_L; cases h_L; have e9 : C = "java/util/ArrayList" := (congrArg Prod.fst (Option.some.inj hci)).symm; rw [e9] at hC9; exact absurd hC9 (by decide))).trans ((hup_ne (fun z => by subst z; rw [hq7] at h_v; cases h_v)).trans h_v)
  refine j_astore_n hX dJx4a65c_add_72be8_10 (by decide) ?_
  refine j_aload_n hX dJx4a65c_add_72be8_11 rfl ?_
  refine j_iload_n hX dJx4a65c_add_72be8_12 rfl ?_
  refine j_aload_n hX dJx4a65c_add_72be8_13 rfl ?_
  refine j_aastO hX 0 rfl dJx4a65c_add_72be8_14 h_Q7 h_v hci hC9 (by omega) (by omega) ?_
  have h_L : (hup (hup (hup h q7 (gQ G 10 (fun _ => none))) tl (.inr (1, LF mc q7 0))) q7 (gQ G 10 (va_up (fun _ => none) 0 (some v)))) tl = some (.inr (1, LF mc q7 0)) := (hup_ne hqt).trans (hup_eq _ _ _)
  refine j_aload_n hX dJx4a65c_add_72be8_15 rfl ?_
  refine j_iload_n hX dJx4a65c_add_72be8_16 rfl ?_
  refine j_iconst hX dJx4a65c_add_72be8_17 ?_
  refine j_iadd hX dJx4a65c_add_72be8_18 ?_
  refine j_putE hX fp_Jx4a65c_48_1 dJx4a65c_add_72be8_19 h_L rfl rfl (Nat.le_of_ble_eq_true rfl) (fs2 := (LF mc q7 1)) rfl ?_
  refine j_wide (k := 1) (n := 22) (by first | omega | exact Nat.le_of_ble_eq_true rfl) (by first | omega | exact Nat.le_of_ble_eq_true rfl) ?_
  exact j_vret hX hR dJx4a65c_add_72be8_22 ⟨q7, hq7, rfl⟩
set_option maxRecDepth 100000 in
set_option maxHeartbeats 4000000 in
theorem c_add310 {l : Launch} {G : Gt} {B : Nat} {h : hF} {tl te : Nat} {mc : Int} {f : Nat → Option Nat} (h_L : h tl = some (.inr (1, LF mc te 10))) (h_E : h te = some (gQ G 10 f)) (hel : ∀ i : Nat, i < 10 → ∀ y : Nat, f i = some y → ∃ fs, h y = some (.inr (6, fs))) {v ci : Nat} {fs : List Value} {C : String} {T : u_T} {N : Nat} (h_v : h v = some (.inr (ci, fs))) (hci : vwCl[ci]? = some (C, T, N)) (hC9 : C ∈ (["AnswerSums$Task", "AnswerSums$Part"] : List String)) : Cv l G B yJx4a65c_add_72be8 cJx4a65c_add_72be8 4 5 1 22 [.ref tl, .ref v, .ref te, .int (iZ 10)] h (fun h' => ∃ q7 : Nat, h q7 = none ∧ h' = hup (hup (hup (hup h q7 (gQ G 15 (va_cpy f (fun _ => none) 0 0 10))) tl (.inr (1, LF mc q7 10))) q7 (gQ G 15 (va_up (va_cpy f (fun _ => none) 0 0 10) 10 (some v)))) tl (.inr (1, LF mc q7 11))) := by
  refine Cv.of (by decide) (Nat.le_of_ble_eq_true rfl) ?_
  intro p e s m9 below meth c A hX hR hin
  refine j_iload_n hX dJx4a65c_add_72be8_0 rfl ?_
  refine j_aload_n hX dJx4a65c_add_72be8_1 rfl ?_
  refine j_alenQ hX dJx4a65c_add_72be8_2 h_E ?_
  refine j_icmp_ne hX 11 dJx4a65c_add_72be8_3 (by decide) (by omega) (by omega) (fun c3 => absurd c3 (by exact fun z => z rfl)) (fun c3 => ?_)
  refine j_aload_n hX dJx4a65c_add_72be8_6 rfl ?_
  refine j_callV hX cv_Jx4a65c_129 (c_grow10 h_L h_E hel) dJx4a65c_add_72be8_7 h_L rfl rfl (by exact ⟨Nat.le_of_ble_eq_true rfl, Nat.le_of_ble_eq_true rfl⟩) (by exact ⟨Nat.le_of_ble_eq_true rfl, Nat.le_of_ble_eq_true rfl⟩) (by exact Nat.le_of_ble_eq_true rfl) (fun v7 h7 hp7 => ?_) rfl
  obtain ⟨q7, rfl, hq7, rfl⟩ := hp7
  have hqt : tl ≠ q7 := fun z => by subst z; rw [hq7] at h_L; cases h_L
  have h_Q7 : (hup (hup h q7 (gQ G 15 (va_cpy f (fun _ => none) 0 0 10))) tl (.inr (1, LF mc q7 10))) q7 = some (gQ G 15 (va_cpy f (fun _ => none) 0 0 10)) := (hup_ne hqt.symm).trans (hup_eq _ _ _)
  have h_v : (hup (hup h q7 (gQ G 15 (va_cpy f (fun _ => none) 0 0 10))) tl (.inr (1, LF mc q7 10))) v = _ := (hup_ne (fun z => by subst z; rw [h_v] at h_L; cases h_L; have e9 : C = "java/util/ArrayList" := (congrArg Prod.fst (Option.some.inj hci)).symm; rw [e9] at hC9; exact absurd hC9 (by decide))).trans ((hup_ne (fun z => by subst z; rw [hq7] at h_v; cases h_v)).trans h_v)
  refine j_astore_n hX dJx4a65c_add_72be8_10 (by decide) ?_
  refine j_aload_n hX dJx4a65c_add_72be8_11 rfl ?_
  refine j_iload_n hX dJx4a65c_add_72be8_12 rfl ?_
  refine j_aload_n hX dJx4a65c_add_72be8_13 rfl ?_
  refine j_aastO hX 10 rfl dJx4a65c_add_72be8_14 h_Q7 h_v hci hC9 (by omega) (by omega) ?_
  have h_L : (hup (hup (hup h q7 (gQ G 15 (va_cpy f (fun _ => none) 0 0 10))) tl (.inr (1, LF mc q7 10))) q7 (gQ G 15 (va_up (va_cpy f (fun _ => none) 0 0 10) 10 (some v)))) tl = some (.inr (1, LF mc q7 10)) := (hup_ne hqt).trans (hup_eq _ _ _)
  refine j_aload_n hX dJx4a65c_add_72be8_15 rfl ?_
  refine j_iload_n hX dJx4a65c_add_72be8_16 rfl ?_
  refine j_iconst hX dJx4a65c_add_72be8_17 ?_
  refine j_iadd hX dJx4a65c_add_72be8_18 ?_
  refine j_putE hX fp_Jx4a65c_48_1 dJx4a65c_add_72be8_19 h_L rfl rfl (Nat.le_of_ble_eq_true rfl) (fs2 := (LF mc q7 11)) rfl ?_
  refine j_wide (k := 1) (n := 22) (by first | omega | exact Nat.le_of_ble_eq_true rfl) (by first | omega | exact Nat.le_of_ble_eq_true rfl) ?_
  exact j_vret hX hR dJx4a65c_add_72be8_22 ⟨q7, hq7, rfl⟩
set_option maxRecDepth 100000 in
set_option maxHeartbeats 4000000 in
theorem c_add315 {l : Launch} {G : Gt} {B : Nat} {h : hF} {tl te : Nat} {mc : Int} {f : Nat → Option Nat} (h_L : h tl = some (.inr (1, LF mc te 15))) (h_E : h te = some (gQ G 15 f)) (hel : ∀ i : Nat, i < 15 → ∀ y : Nat, f i = some y → ∃ fs, h y = some (.inr (6, fs))) {v ci : Nat} {fs : List Value} {C : String} {T : u_T} {N : Nat} (h_v : h v = some (.inr (ci, fs))) (hci : vwCl[ci]? = some (C, T, N)) (hC9 : C ∈ (["AnswerSums$Task", "AnswerSums$Part"] : List String)) : Cv l G B yJx4a65c_add_72be8 cJx4a65c_add_72be8 4 5 1 22 [.ref tl, .ref v, .ref te, .int (iZ 15)] h (fun h' => ∃ q7 : Nat, h q7 = none ∧ h' = hup (hup (hup (hup h q7 (gQ G 22 (va_cpy f (fun _ => none) 0 0 15))) tl (.inr (1, LF mc q7 15))) q7 (gQ G 22 (va_up (va_cpy f (fun _ => none) 0 0 15) 15 (some v)))) tl (.inr (1, LF mc q7 16))) := by
  refine Cv.of (by decide) (Nat.le_of_ble_eq_true rfl) ?_
  intro p e s m9 below meth c A hX hR hin
  refine j_iload_n hX dJx4a65c_add_72be8_0 rfl ?_
  refine j_aload_n hX dJx4a65c_add_72be8_1 rfl ?_
  refine j_alenQ hX dJx4a65c_add_72be8_2 h_E ?_
  refine j_icmp_ne hX 11 dJx4a65c_add_72be8_3 (by decide) (by omega) (by omega) (fun c3 => absurd c3 (by exact fun z => z rfl)) (fun c3 => ?_)
  refine j_aload_n hX dJx4a65c_add_72be8_6 rfl ?_
  refine j_callV hX cv_Jx4a65c_129 (c_grow15 h_L h_E hel) dJx4a65c_add_72be8_7 h_L rfl rfl (by exact ⟨Nat.le_of_ble_eq_true rfl, Nat.le_of_ble_eq_true rfl⟩) (by exact ⟨Nat.le_of_ble_eq_true rfl, Nat.le_of_ble_eq_true rfl⟩) (by exact Nat.le_of_ble_eq_true rfl) (fun v7 h7 hp7 => ?_) rfl
  obtain ⟨q7, rfl, hq7, rfl⟩ := hp7
  have hqt : tl ≠ q7 := fun z => by subst z; rw [hq7] at h_L; cases h_L
  have h_Q7 : (hup (hup h q7 (gQ G 22 (va_cpy f (fun _ => none) 0 0 15))) tl (.inr (1, LF mc q7 15))) q7 = some (gQ G 22 (va_cpy f (fun _ => none) 0 0 15)) := (hup_ne hqt.symm).trans (hup_eq _ _ _)
  have h_v : (hup (hup h q7 (gQ G 22 (va_cpy f (fun _ => none) 0 0 15))) tl (.inr (1, LF mc q7 15))) v = _ := (hup_ne (fun z => by subst z; rw [h_v] at h_L; cases h_L; have e9 : C = "java/util/ArrayList" := (congrArg Prod.fst (Option.some.inj hci)).symm; rw [e9] at hC9; exact absurd hC9 (by decide))).trans ((hup_ne (fun z => by subst z; rw [hq7] at h_v; cases h_v)).trans h_v)
  refine j_astore_n hX dJx4a65c_add_72be8_10 (by decide) ?_
  refine j_aload_n hX dJx4a65c_add_72be8_11 rfl ?_
  refine j_iload_n hX dJx4a65c_add_72be8_12 rfl ?_
  refine j_aload_n hX dJx4a65c_add_72be8_13 rfl ?_
  refine j_aastO hX 15 rfl dJx4a65c_add_72be8_14 h_Q7 h_v hci hC9 (by omega) (by omega) ?_
  have h_L : (hup (hup (hup h q7 (gQ G 22 (va_cpy f (fun _ => none) 0 0 15))) tl (.inr (1, LF mc q7 15))) q7 (gQ G 22 (va_up (va_cpy f (fun _ => none) 0 0 15) 15 (some v)))) tl = some (.inr (1, LF mc q7 15)) := (hup_ne hqt).trans (hup_eq _ _ _)
  refine j_aload_n hX dJx4a65c_add_72be8_15 rfl ?_
  refine j_iload_n hX dJx4a65c_add_72be8_16 rfl ?_
  refine j_iconst hX dJx4a65c_add_72be8_17 ?_
  refine j_iadd hX dJx4a65c_add_72be8_18 ?_
  refine j_putE hX fp_Jx4a65c_48_1 dJx4a65c_add_72be8_19 h_L rfl rfl (Nat.le_of_ble_eq_true rfl) (fs2 := (LF mc q7 16)) rfl ?_
  refine j_wide (k := 1) (n := 22) (by first | omega | exact Nat.le_of_ble_eq_true rfl) (by first | omega | exact Nat.le_of_ble_eq_true rfl) ?_
  exact j_vret hX hR dJx4a65c_add_72be8_22 ⟨q7, hq7, rfl⟩
