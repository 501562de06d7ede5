/-! CONTRACTS AND CALLS -/
abbrev rmN (d mc ms : Nat) : Room := { frames := d, cells := mc, slots := ms, locals := 60 * d }
def WP (G : Gt) (B : Nat) (h : hF) (sz : Nat) : State → Prop := fun U => U.heap.size = sz ∧ HP G h U.heap ∧ KK G U ∧ SZ G B U U.heap ∧ (∀ (a : Nat) (x : va_E), h a = some x → B ≤ a) ∧ B ≤ sz
def QV (G : Gt) (h : hF) (post : Value → hF → Prop) : Array Value → State → Outcome → State → Prop := fun _ st o t => ∃ (v : Value) (h' : hF), o = .returned (some v) ∧ post v h' ∧ HP G h' t.heap ∧ (∀ (a : Nat) (x : va_E), h' a = some x → fr h st.heap.size a) ∧ va_F (fr h st.heap.size) st t
def QN (G : Gt) (h : hF) (post : hF → Prop) : Array Value → State → Outcome → State → Prop := fun _ st o t => ∃ (h' : hF), o = .returned none ∧ post h' ∧ HP G h' t.heap ∧ (∀ (a : Nat) (x : va_E), h' a = some x → fr h st.heap.size a) ∧ va_F (fr h st.heap.size) st t
/-- what a method answers and does to the heap, from these arguments and this heap -/
def Ct (l : Launch) (G : Gt) (B : Nat) (y : MethodName) (bytes : ByteArray) (maxL : Nat) (ret : Option FieldType) (d mc ms : Nat) (args : List Value) (h : hF) (post : Value → hF → Prop) : Prop := ∀ sz : Nat, Met l y (.code y bytes maxL ret :: lw_g) (rmN d mc ms) (va_Pc args (WP G B h sz)) (QV G h post) mc ms (fr h sz)
def Cv (l : Launch) (G : Gt) (B : Nat) (y : MethodName) (bytes : ByteArray) (maxL : Nat) (d mc ms : Nat) (args : List Value) (h : hF) (post : hF → Prop) : Prop := ∀ sz : Nat, Met l y (.code y bytes maxL none :: lw_g) (rmN d mc ms) (va_Pc args (WP G B h sz)) (QN G h post) mc ms (fr h sz)
theorem WP.blind {G : Gt} {B : Nat} {h : hF} {sz : Nat} {av : List Value} : FrameBlind (va_Pc av (WP G B h sz)) := by
  intro a U g mk ⟨q0, q1, q2, q3, q4, q5⟩
  exact ⟨q0, q1, q2, q3.same rfl, q4.moved (Vm.Alike.refl U.vm), q5⟩
/-- what holds of a method's end -/
def RX (meth : Method) (ret : Option FieldType) (A : Nat → Prop) (h0 : hF) (s : State) : Prop := meth.sig.returnType = ret ∧ meth.locks = false ∧ A = fr h0 s.heap.size
theorem Ct.of {l : Launch} {G : Gt} {B : Nat} {y : MethodName} {cc : ByteArray} {maxL : Nat} {ret : Option FieldType} {d mc ms : Nat} {args : List Value} {h : hF} {post : Value → hF → Prop} (hy : plainName y.cls = true) (hlen : (lg_sl args).length ≤ maxL)
    (body : ∀ (p : Program) (e : Env) (s : State) (m : MethodId) (below : List Frame) (meth : Method) (c : Code) (A : Nat → Prop), CX p s m args.toArray c cc maxL y.cls G B A → RX meth ret A h s → meth.name = y.name →
      J p l e (rmN d mc ms) s m args.toArray below meth c (MQ below (QV G h post) args.toArray s mc ms (fr h s.heap.size)) maxL G A 0 0 0 (lv_args 0 args) [] h) : Ct l G B y cc maxL ret d mc ms args h post := by
  intro sz
  refine Met.ofW (cc := cc) (maxL := maxL) (ret := ret) hy rfl ?_
  intro p e s m args' below meth c s₁ Bd hml hv
  obtain ⟨rfl, hsz, hP, hK, hZ, hB, hBs⟩ := hv
  subst hsz
  have hts0 := atoms_spec (ws := .code y cc maxL ret :: lw_g) Bd.pre
  have hl := lv_entry args (n := maxL) hlen
  rw [lg_entry_eq]
  refine body p e s m below meth c (fr h s.heap.size) ⟨Bd.exec, Bd.bytes, hml, findClass_of_methodNamed Bd.named, fun w hw => hts0 w (List.mem_cons_of_mem _ hw), hK, hZ, fun q hq => Or.inr hq, fun q hq => ?_⟩ ⟨Bd.returns, Bd.notSynchronized, rfl⟩ ((name_of_methodNamed Bd.named Bd.method).1) _ s.heap [] hl hP (fun a x hx => Or.inl (by rw [hx]; exact fun z => by cases z)) va_S.rf
  rcases hq with hq | hq
  · cases hh : h q with
    | none => exact absurd hh hq
    | some x => exact hB _ _ hh
  · exact Nat.le_trans hBs hq
theorem Cv.of {l : Launch} {G : Gt} {B : Nat} {y : MethodName} {cc : ByteArray} {maxL : Nat} {d mc ms : Nat} {args : List Value} {h : hF} {post : hF → Prop} (hy : plainName y.cls = true) (hlen : (lg_sl args).length ≤ maxL)
    (body : ∀ (p : Program) (e : Env) (s : State) (m : MethodId) (below : List Frame) (meth : Method) (c : Code) (A : Nat → Prop), CX p s m args.toArray c cc maxL y.cls G B A → RX meth none A h s → meth.name = y.name →
      J p l e (rmN d mc ms) s m args.toArray below meth c (MQ below (QN G h post) args.toArray s mc ms (fr h s.heap.size)) maxL G A 0 0 0 (lv_args 0 args) [] h) : Cv l G B y cc maxL d mc ms args h post := by
  intro sz
  refine Met.ofW (cc := cc) (maxL := maxL) (ret := none) hy rfl ?_
  intro p e s m args' below meth c s₁ Bd hml hv
  obtain ⟨rfl, hsz, hP, hK, hZ, hB, hBs⟩ := hv
  subst hsz
  have hts0 := atoms_spec (ws := .code y cc maxL none :: lw_g) Bd.pre
  have hl := lv_entry args (n := maxL) hlen
  rw [lg_entry_eq]
  refine body p e s m below meth c (fr h s.heap.size) ⟨Bd.exec, Bd.bytes, hml, findClass_of_methodNamed Bd.named, fun w hw => hts0 w (List.mem_cons_of_mem _ hw), hK, hZ, fun q hq => Or.inr hq, fun q hq => ?_⟩ ⟨Bd.returns, Bd.notSynchronized, rfl⟩ ((name_of_methodNamed Bd.named Bd.method).1) _ s.heap [] hl hP (fun a x hx => Or.inl (by rw [hx]; exact fun z => by cases z)) va_S.rf
  rcases hq with hq | hq
  · cases hh : h q with
    | none => exact absurd hh hq
    | some x => exact hB _ _ hh
  · exact Nat.le_trans hBs hq
section JC
variable {p : Program} {l : Launch} {e : Env} {R : Room} {s : State} {m : MethodId} {args : Array Value} {below : List Frame} {meth : Method} {c : Code} {Q : State → Prop} {nL : Nat} {G : Gt} {A : Nat → Prop} {cells slots pc : Nat} {L : List (Nat × Value)} {st : List Value} {h : hF} {cc : ByteArray} {own : String} {B : Nat}

theorem j_lret (hX : CX p s m args c cc nL own G B A) {h0 : hF} {post : Value → hF → Prop} (hR : RX meth (some .long) A h0 s) (hdg : decode cc pc = .ok (.lreturn, 1)) {z : Int} (hp : post (.long (lZ z)) h) : J p l e R s m args below meth c (MQ below (QV G h0 post) args s cells slots (fr h0 s.heap.size)) nL G A cells slots pc L [.long (lZ z)] h := by
  intro ls H locs hl hP hA hS
  exact W.lret hX.1 hX.2.1 hR.1 (fun t ht hW => ⟨_, h, rfl, hp, by rw [ht]; exact hP, fun a x hx => hR.2.2 ▸ hA a x hx, by have := hS.F ht; rw [hR.2.2] at this; exact this⟩) (by have := hS.2.2; rw [hR.2.2] at this; exact this) hdg hR.2.1
theorem j_iret (hX : CX p s m args c cc nL own G B A) {h0 : hF} {post : Value → hF → Prop} (hR : RX meth (some .int) A h0 s) (hdg : decode cc pc = .ok (.ireturn, 1)) {z : Int} (hp : post (.int (iZ z)) h) : J p l e R s m args below meth c (MQ below (QV G h0 post) args s cells slots (fr h0 s.heap.size)) nL G A cells slots pc L [.int (iZ z)] h := by
  intro ls H locs hl hP hA hS
  exact W.iret hX.1 hX.2.1 hR.1 (fun t ht hW => ⟨_, h, rfl, hp, by rw [ht]; exact hP, fun a x hx => hR.2.2 ▸ hA a x hx, by have := hS.F ht; rw [hR.2.2] at this; exact this⟩) (by have := hS.2.2; rw [hR.2.2] at this; exact this) hdg hR.2.1
theorem j_zret (hX : CX p s m args c cc nL own G B A) {h0 : hF} {post : Value → hF → Prop} (hR : RX meth (some .boolean) A h0 s) (hdg : decode cc pc = .ok (.ireturn, 1)) {z : Int} (hz : z = 0 ∨ z = 1) (hp : post (.int (iZ z)) h) : J p l e R s m args below meth c (MQ below (QV G h0 post) args s cells slots (fr h0 s.heap.size)) nL G A cells slots pc L [.int (iZ z)] h := by
  intro ls H locs hl hP hA hS
  exact W.zret hX.1 hX.2.1 hR.1 (by rcases hz with rfl | rfl <;> rfl) (fun t ht hW => ⟨_, h, rfl, hp, by rw [ht]; exact hP, fun a x hx => hR.2.2 ▸ hA a x hx, by have := hS.F ht; rw [hR.2.2] at this; exact this⟩) (by have := hS.2.2; rw [hR.2.2] at this; exact this) hdg hR.2.1
theorem j_aret (hX : CX p s m args c cc nL own G B A) {h0 : hF} {post : Value → hF → Prop} {rt : FieldType} (hR : RX meth (some rt) A h0 s) (hrt : (∃ n, rt = .object n) ∨ ∃ t, rt = .array t) (hdg : decode cc pc = .ok (.areturn, 1)) {v : Value} (hv : v = .null ∨ ∃ a, v = .ref a) (hp : post v h) : J p l e R s m args below meth c (MQ below (QV G h0 post) args s cells slots (fr h0 s.heap.size)) nL G A cells slots pc L [v] h := by
  intro ls H locs hl hP hA hS
  exact W.aret hX.1 hX.2.1 hR.1 hrt hv (fun t ht hW => ⟨_, h, rfl, hp, by rw [ht]; exact hP, fun a x hx => hR.2.2 ▸ hA a x hx, by have := hS.F ht; rw [hR.2.2] at this; exact this⟩) (by have := hS.2.2; rw [hR.2.2] at this; exact this) hdg hR.2.1
theorem j_vret (hX : CX p s m args c cc nL own G B A) {h0 : hF} {post : hF → Prop} (hR : RX meth none A h0 s) (hdg : decode cc pc = .ok (.return_, 1)) (hp : post h) : J p l e R s m args below meth c (MQ below (QN G h0 post) args s cells slots (fr h0 s.heap.size)) nL G A cells slots pc L [] h := by
  intro ls H locs hl hP hA hS
  exact W.vret hX.1 hX.2.1 hR.1 (fun t ht hW => ⟨h, rfl, hp, by rw [ht]; exact hP, fun a x hx => hR.2.2 ▸ hA a x hx, by have := hS.F ht; rw [hR.2.2] at this; exact this⟩) (by have := hS.2.2; rw [hR.2.2] at this; exact this) hdg hR.2.1
theorem run_v {H : Heap} {locs : List Loc} {ls : Array Slot} {st0 : List Value} {mc ms : Nat} {a : Array Value} {post : Value → hF → Prop} (hr : va_Run p l e R s m args below meth c H locs cells slots mc ms (F0 m pc ls st0) st (QV G h post a) (fr h H.size)) (hX : CX p s m args c cc nL own G B A) (hA : ∀ (a : Nat) (x : va_E), h a = some x → A a) (hS : va_S A s.heap H locs)
    (kk : ∀ (v : Value) (h' : hF) (H1 : Heap) (locs1 : List Loc), post v h' → HP G h' H1 → (∀ (a : Nat) (x : va_E), h' a = some x → A a) → va_S A s.heap H1 locs1 → W p l e R s m args below meth c H1 locs1 (cells + mc) (slots + ms) Q (F0 m (pc + 3) ls (v :: st))) : W p l e R s m args below meth c H locs cells slots Q (F0 m pc ls st0) := by
  have hsub : ∀ q, fr h H.size q → A q := by
    intro q hq
    rcases hq with hq | hq
    · cases hh : h q with
      | none => exact absurd hh hq
      | some x => exact hA _ _ hh
    · exact hX.2.2.2.2.2.2.2.1 _ (Nat.le_trans hS.1 hq)
  intro T hT X
  obtain ⟨v, st₀, t, T', Lc, h0, X', hL, e1, e2, ⟨v', h', hv, hp, hP', hA', hz, hk⟩, stp⟩ := hr T hT X
  cases hv
  rw [h0] at hz hk hA'
  obtain ⟨t2, a1, b1⟩ := kk v' h' T'.heap (locs ++ Lc) hp (by rw [e1]; exact hP') (fun b x hb => hsub _ (hA' b x hb))
    ⟨Nat.le_trans hS.1 (by rw [e1]; exact hz), fun q h1 h2 => by rw [e1, hk q (Nat.lt_of_lt_of_le h1 hS.1) (fun z => h2 (hsub q z))]; exact hS.2.1 q h1 h2, fun q hq => by
      rcases List.mem_append.mp hq with h | h
      · exact hS.2.2 q h
      · exact hsub _ (hL q h)⟩ T' rfl X'
  exact ⟨t2, stp t2 a1, b1⟩
theorem run_n {H : Heap} {locs : List Loc} {ls : Array Slot} {st0 : List Value} {mc ms : Nat} {a : Array Value} {post : hF → Prop} (hr : va_Run p l e R s m args below meth c H locs cells slots mc ms (F0 m pc ls st0) st (QN G h post a) (fr h H.size)) (hX : CX p s m args c cc nL own G B A) (hA : ∀ (a : Nat) (x : va_E), h a = some x → A a) (hS : va_S A s.heap H locs)
    (kk : ∀ (h' : hF) (H1 : Heap) (locs1 : List Loc), post h' → HP G h' H1 → (∀ (a : Nat) (x : va_E), h' a = some x → A a) → va_S A s.heap H1 locs1 → W p l e R s m args below meth c H1 locs1 (cells + mc) (slots + ms) Q (F0 m (pc + 3) ls st)) : W p l e R s m args below meth c H locs cells slots Q (F0 m pc ls st0) := by
  have hsub : ∀ q, fr h H.size q → A q := by
    intro q hq
    rcases hq with hq | hq
    · cases hh : h q with
      | none => exact absurd hh hq
      | some x => exact hA _ _ hh
    · exact hX.2.2.2.2.2.2.2.1 _ (Nat.le_trans hS.1 hq)
  intro T hT X
  obtain ⟨v, st₀, t, T', Lc, h0, X', hL, e1, e2, ⟨h', hv, hp, hP', hA', hz, hk⟩, stp⟩ := hr T hT X
  cases hv
  rw [h0] at hz hk hA'
  obtain ⟨t2, a1, b1⟩ := kk h' T'.heap (locs ++ Lc) hp (by rw [e1]; exact hP') (fun b x hb => hsub _ (hA' b x hb))
    ⟨Nat.le_trans hS.1 (by rw [e1]; exact hz), fun q h1 h2 => by rw [e1, hk q (Nat.lt_of_lt_of_le h1 hS.1) (fun z => h2 (hsub q z))]; exact hS.2.1 q h1 h2, fun q hq => by
      rcases List.mem_append.mp hq with h | h
      · exact hS.2.2 q h
      · exact hsub _ (hL q h)⟩ T' rfl X'
  exact ⟨t2, stp t2 a1, b1⟩
theorem WP.of (hX : CX p s m args c cc nL own G B A) {H : Heap} {locs : List Loc} (hP : HP G h H) (hA : ∀ (a : Nat) (x : va_E), h a = some x → A a) (hS : va_S A s.heap H locs) : ∀ U : State, U.heap = H → s.WarmedH U.vm → WP G B h H.size U := by
  intro U hU hW
  have hB : B ≤ s.heap.size := by
    rcases Nat.lt_or_ge s.heap.size B with q | q
    · exact absurd (hX.2.2.2.2.2.2.2.2 _ (hX.2.2.2.2.2.2.2.1 _ (Nat.le_refl _))) (by omega)
    · exact q
  refine ⟨by rw [hU], by rw [hU]; exact hP, hX.2.2.2.2.2.1.warm hW, ?_, fun a x hx => hX.2.2.2.2.2.2.2.2 _ (hA a x hx), Nat.le_trans hB hS.1⟩
  rw [hU]
  exact (hX.2.2.2.2.2.2.1.kept (fun q h1 h2 => hS.2.1 q h1 (fun z => h2 (hX.2.2.2.2.2.2.2.2 _ z)))).moved hW.alike

/-- the words of a call: virtual, static, constructor, inherited, a nest mate's -/
def CwB (own : String) (i : Nat) (y : MethodName) (n : Nat) (bytes : ByteArray) (maxL : Nat) (ret : Option FieldType) : Prop := Cond.methodLink own i y ∈ lw_g ∧ Cond.initialized y.cls ∈ lw_g ∧ Cond.code y bytes maxL ret ∈ lw_g ∧ (y.cls ≠ "java/lang/invoke/MethodHandle" ∧ y.cls ≠ "java/lang/invoke/VarHandle") ∧ (parseMethodDescriptor y.desc).map (fun d => d.parameters.length) = some n
def CwV (own : String) (i : Nat) (y : MethodName) (C : String) (n : Nat) (bytes : ByteArray) (maxL : Nat) (ret : Option FieldType) : Prop := CwB own i y n bytes maxL ret ∧ Cond.instanceMethod y ∈ lw_g ∧ Cond.selects C y y ∈ lw_g
def CwS (own : String) (i : Nat) (y : MethodName) (n : Nat) (bytes : ByteArray) (maxL : Nat) (ret : Option FieldType) : Prop := CwB own i y n bytes maxL ret ∧ Cond.static y ∈ lw_g
def CwI (own : String) (i : Nat) (y : MethodName) (n : Nat) (bytes : ByteArray) (maxL : Nat) : Prop := CwB own i y n bytes maxL none ∧ Cond.instanceMethod y ∈ lw_g ∧ y.name = "<init>"
/-- x is what the constant pool names; it is y's code that runs, of the class owner above C -/
def CwU (own : String) (i : Nat) (x y : MethodName) (C owner : String) (n : Nat) (bytes : ByteArray) (maxL : Nat) (ret : Option FieldType) : Prop := Cond.methodLink own i x ∈ lw_g ∧ Cond.initialized y.cls ∈ lw_g ∧ Cond.code y bytes maxL ret ∈ lw_g ∧ (owner ≠ "java/lang/invoke/MethodHandle" ∧ owner ≠ "java/lang/invoke/VarHandle") ∧ (parseMethodDescriptor x.desc).map (fun d => d.parameters.length) = some n ∧ Cond.sameMethod x.cls owner x.name x.desc ∈ lw_g ∧ Cond.selects C x y ∈ lw_g ∧ Cond.instanceMethod y ∈ lw_g ∧ y = ⟨owner, x.name, x.desc⟩
def CwN (own : String) (i : Nat) (y : MethodName) (host : String) (n : Nat) (bytes : ByteArray) (maxL : Nat) (ret : Option FieldType) : Prop := (own, i, y, host) ∈ nestL ∧ Cond.initialized y.cls ∈ lw_g ∧ Cond.code y bytes maxL ret ∈ lw_g ∧ (y.cls ≠ "java/lang/invoke/MethodHandle" ∧ y.cls ≠ "java/lang/invoke/VarHandle") ∧ (parseMethodDescriptor y.desc).map (fun d => d.parameters.length) = some n
theorem cwB_use {R : Room} {s : State} {args : Array Value} {own : String} {i n maxL d mc ms : Nat} {y : MethodName} {bytes : ByteArray} {ret : Option FieldType} (hts : ∀ w ∈ lw_g, w.before args s = true) (h : CwB own i y n bytes maxL ret) (hR : d + 1 ≤ R.frames ∧ 8 + (maxL + 11) + 60 * d ≤ R.locals) : CallB R s args own i y bytes maxL ret (.code y bytes maxL ret :: lw_g) (rmN d mc ms) mc ms n :=
  callB_of n hts (good_g h.2.2.1) rfl rfl rfl (hts _ h.2.1) (hts _ h.1) ⟨h.2.2.2.1.1, h.2.2.2.1.2, h.2.2.2.2⟩ hR
theorem j_callV (hX : CX p s m args c cc nL own G B A) {i n maxL d mc ms b ci : Nat} {y : MethodName} {bytes : ByteArray} {C : String} {T : u_T} {N : Nat} {fs As : List Value} {ret : Option FieldType} {post : Value → hF → Prop} (hw : CwV own i y C n bytes maxL ret) (hct : Ct l G B y bytes maxL ret d mc ms (.ref b :: As) h post) (hdg : decode cc pc = .ok (.invokevirtual i, 3)) (hb : h b = some (.inr (ci, fs))) (hc : vwCl[ci]? = some (C, T, N)) (hn : As.length = n) (hr : d + 1 ≤ R.frames ∧ 8 + (maxL + 11) + 60 * d ≤ R.locals) (hf : cells + mc ≤ R.cells ∧ slots + ms ≤ R.slots) (hW : (st.map fun v => v.category).sum ≤ 8) (kk : ∀ (v : Value) (h' : hF), post v h' → J p l e R s m args below meth c Q nL G A (cells + mc) (slots + ms) (pc + 3) L (v :: st) h') {st0 : List Value} (hst : st0 = As.reverse ++ .ref b :: st) : J p l e R s m args below meth c Q nL G A cells slots pc L st0 h := by
  subst hst
  intro ls H locs hl hP hA hS
  have hts := hX.2.2.2.2.1
  refine run_v (va_runV (As := As) ⟨hX.1, hX.2.1, hX.2.2.1, hX.2.2.2.1, hts⟩ (hct H.size) ⟨cwB_use hts hw.1 hr, hts _ hw.2.1, hts _ hw.2.2⟩ ⟨WP.blind, va_recv hX.2.2.2.2.2.1.1 (hP.one hb) hc (q0 := 0) rfl, fun U hU hW => ⟨rfl, WP.of hX hP hA hS U hU hW⟩⟩ rfl hn hl.1 rfl (lv_room hW) hdg hf) hX hA hS (fun v h' H1 locs1 hp hP1 hA1 hS1 => kk v h' hp ls H1 locs1 hl hP1 hA1 hS1)
theorem j_callU (hX : CX p s m args c cc nL own G B A) {i n maxL d mc ms b ci : Nat} {x y : MethodName} {bytes : ByteArray} {C owner : String} {T : u_T} {N : Nat} {fs As : List Value} {ret : Option FieldType} {post : Value → hF → Prop} (hw : CwU own i x y C owner n bytes maxL ret) (hct : Ct l G B y bytes maxL ret d mc ms (.ref b :: As) h post) (hdg : decode cc pc = .ok (.invokevirtual i, 3)) (hb : h b = some (.inr (ci, fs))) (hc : vwCl[ci]? = some (C, T, N)) (hn : As.length = n) (hr : d + 1 ≤ R.frames ∧ 8 + (maxL + 11) + 60 * d ≤ R.locals) (hf : cells + mc ≤ R.cells ∧ slots + ms ≤ R.slots) (hW : (st.map fun v => v.category).sum ≤ 8) (kk : ∀ (v : Value) (h' : hF), post v h' → J p l e R s m args below meth c Q nL G A (cells + mc) (slots + ms) (pc + 3) L (v :: st) h') {st0 : List Value} (hst : st0 = As.reverse ++ .ref b :: st) : J p l e R s m args below meth c Q nL G A cells slots pc L st0 h := by
  subst hst
  intro ls H locs hl hP hA hS
  have hts := hX.2.2.2.2.1
  obtain ⟨w1, w2, w3, w4, w5, w6, w7, w8, w9⟩ := hw
  have hcu : va_CU R s args own C owner i x y bytes maxL ret (.code y bytes maxL ret :: lw_g) (rmN d mc ms) mc ms n := by
    refine ⟨⟨rfl, rfl, hr.1, hr.2, pay_in hts (good_g w3), List.mem_cons_self⟩, hts _ w3, hts _ w2, w4, fun sig hs => ?_, hts _ w1, hts _ w6, by rw [← w9]; exact va_Decl.of (hts _ w8) (hts _ w3), hts _ w7, hts _ w8⟩
    rw [hs] at w5
    exact (Option.some.inj w5).symm
  refine run_v (va_runU (As := As) ⟨hX.1, hX.2.1, hX.2.2.1, hX.2.2.2.1, hts⟩ (hct H.size) hcu ⟨WP.blind, va_recv hX.2.2.2.2.2.1.1 (hP.one hb) hc (q0 := 0) rfl, fun U hU hW => ⟨rfl, WP.of hX hP hA hS U hU hW⟩⟩ rfl hn hl.1 rfl (lv_room hW) hdg hf) hX hA hS (fun v h' H1 locs1 hp hP1 hA1 hS1 => kk v h' hp ls H1 locs1 hl hP1 hA1 hS1)
theorem j_callS (hX : CX p s m args c cc nL own G B A) {i n maxL d mc ms : Nat} {y : MethodName} {bytes : ByteArray} {As : List Value} {ret : Option FieldType} {post : Value → hF → Prop} (hw : CwS own i y n bytes maxL ret) (hct : Ct l G B y bytes maxL ret d mc ms As h post) (hdg : decode cc pc = .ok (.invokestatic i, 3)) (hn : As.length = n) (hr : d + 1 ≤ R.frames ∧ 8 + (maxL + 11) + 60 * d ≤ R.locals) (hf : cells + mc ≤ R.cells ∧ slots + ms ≤ R.slots) (hW : (st.map fun v => v.category).sum ≤ 8) (kk : ∀ (v : Value) (h' : hF), post v h' → J p l e R s m args below meth c Q nL G A (cells + mc) (slots + ms) (pc + 3) L (v :: st) h') {st0 : List Value} (hst : st0 = As.reverse ++ st) : J p l e R s m args below meth c Q nL G A cells slots pc L st0 h := by
  subst hst
  intro ls H locs hl hP hA hS
  have hts := hX.2.2.2.2.1
  refine run_v (va_runS (As := As) ⟨hX.1, hX.2.1, hX.2.2.1, hX.2.2.2.1, hts⟩ (hct H.size) ⟨cwB_use hts hw.1 hr, hts _ hw.2⟩ ⟨WP.blind, fun U hU hW => ⟨rfl, WP.of hX hP hA hS U hU hW⟩⟩ rfl hn hl.1 rfl (lv_room hW) hdg hf) hX hA hS (fun v h' H1 locs1 hp hP1 hA1 hS1 => kk v h' hp ls H1 locs1 hl hP1 hA1 hS1)
theorem j_callSN (hX : CX p s m args c cc nL own G B A) {i n maxL d mc ms : Nat} {y : MethodName} {host : String} {bytes : ByteArray} {As : List Value} {ret : Option FieldType} {post : Value → hF → Prop} (hw : CwN own i y host n bytes maxL ret) (hstat : Cond.static y ∈ lw_g) (hct : Ct l G B y bytes maxL ret d mc ms As h post) (hdg : decode cc pc = .ok (.invokestatic i, 3)) (hn : As.length = n) (hr : d + 1 ≤ R.frames ∧ 8 + (maxL + 11) + 60 * d ≤ R.locals) (hf : cells + mc ≤ R.cells ∧ slots + ms ≤ R.slots) (hW : (st.map fun v => v.category).sum ≤ 8) (kk : ∀ (v : Value) (h' : hF), post v h' → J p l e R s m args below meth c Q nL G A (cells + mc) (slots + ms) (pc + 3) L (v :: st) h') {st0 : List Value} (hst : st0 = As.reverse ++ st) : J p l e R s m args below meth c Q nL G A cells slots pc L st0 h := by
  subst hst
  intro ls H locs hl hP hA hS
  have hts := hX.2.2.2.2.1
  refine run_v (va_runSN (As := As) (host := host) ⟨hX.1, hX.2.1, hX.2.2.1, hX.2.2.2.1, hts⟩ (hct H.size) ⟨va_cnB n hts (good_g hw.2.2.1) rfl rfl rfl (hX.2.2.2.2.2.1.2.1 _ hw.1) (hts _ hw.2.1) ⟨hw.2.2.2.1.1, hw.2.2.2.1.2, hw.2.2.2.2⟩ hr, hts _ hstat, trivial⟩ ⟨WP.blind, fun U hU hW => ⟨rfl, WP.of hX hP hA hS U hU hW⟩⟩ rfl hn hl.1 rfl (lv_room hW) hdg hf) hX hA hS (fun v h' H1 locs1 hp hP1 hA1 hS1 => kk v h' hp ls H1 locs1 hl hP1 hA1 hS1)
theorem j_callVv (hX : CX p s m args c cc nL own G B A) {i n maxL d mc ms b ci : Nat} {y : MethodName} {bytes : ByteArray} {C : String} {T : u_T} {N : Nat} {fs As : List Value} {post : hF → Prop} (hw : CwV own i y C n bytes maxL none) (hct : Cv l G B y bytes maxL  d mc ms (.ref b :: As) h post) (hdg : decode cc pc = .ok (.invokevirtual i, 3)) (hb : h b = some (.inr (ci, fs))) (hc : vwCl[ci]? = some (C, T, N)) (hn : As.length = n) (hr : d + 1 ≤ R.frames ∧ 8 + (maxL + 11) + 60 * d ≤ R.locals) (hf : cells + mc ≤ R.cells ∧ slots + ms ≤ R.slots) (hW : (st.map fun v => v.category).sum ≤ 8) (kk : ∀ (h' : hF), post h' → J p l e R s m args below meth c Q nL G A (cells + mc) (slots + ms) (pc + 3) L st h') {st0 : List Value} (hst : st0 = As.reverse ++ .ref b :: st) : J p l e R s m args below meth c Q nL G A cells slots pc L st0 h := by
  subst hst
  intro ls H locs hl hP hA hS
  have hts := hX.2.2.2.2.1
  refine run_n (va_runV (As := As) ⟨hX.1, hX.2.1, hX.2.2.1, hX.2.2.2.1, hts⟩ (hct H.size) ⟨cwB_use hts hw.1 hr, hts _ hw.2.1, hts _ hw.2.2⟩ ⟨WP.blind, va_recv hX.2.2.2.2.2.1.1 (hP.one hb) hc (q0 := 0) rfl, fun U hU hW => ⟨rfl, WP.of hX hP hA hS U hU hW⟩⟩ rfl hn hl.1 rfl (lv_room hW) hdg hf) hX hA hS (fun h' H1 locs1 hp hP1 hA1 hS1 => kk h' hp ls H1 locs1 hl hP1 hA1 hS1)
theorem j_callUv (hX : CX p s m args c cc nL own G B A) {i n maxL d mc ms b ci : Nat} {x y : MethodName} {bytes : ByteArray} {C owner : String} {T : u_T} {N : Nat} {fs As : List Value} {post : hF → Prop} (hw : CwU own i x y C owner n bytes maxL none) (hct : Cv l G B y bytes maxL  d mc ms (.ref b :: As) h post) (hdg : decode cc pc = .ok (.invokevirtual i, 3)) (hb : h b = some (.inr (ci, fs))) (hc : vwCl[ci]? = some (C, T, N)) (hn : As.length = n) (hr : d + 1 ≤ R.frames ∧ 8 + (maxL + 11) + 60 * d ≤ R.locals) (hf : cells + mc ≤ R.cells ∧ slots + ms ≤ R.slots) (hW : (st.map fun v => v.category).sum ≤ 8) (kk : ∀ (h' : hF), post h' → J p l e R s m args below meth c Q nL G A (cells + mc) (slots + ms) (pc + 3) L st h') {st0 : List Value} (hst : st0 = As.reverse ++ .ref b :: st) : J p l e R s m args below meth c Q nL G A cells slots pc L st0 h := by
  subst hst
  intro ls H locs hl hP hA hS
  have hts := hX.2.2.2.2.1
  obtain ⟨w1, w2, w3, w4, w5, w6, w7, w8, w9⟩ := hw
  have hcu : va_CU R s args own C owner i x y bytes maxL none (.code y bytes maxL none :: lw_g) (rmN d mc ms) mc ms n := by
    refine ⟨⟨rfl, rfl, hr.1, hr.2, pay_in hts (good_g w3), List.mem_cons_self⟩, hts _ w3, hts _ w2, w4, fun sig hs => ?_, hts _ w1, hts _ w6, by rw [← w9]; exact va_Decl.of (hts _ w8) (hts _ w3), hts _ w7, hts _ w8⟩
    rw [hs] at w5
    exact (Option.some.inj w5).symm
  refine run_n (va_runU (As := As) ⟨hX.1, hX.2.1, hX.2.2.1, hX.2.2.2.1, hts⟩ (hct H.size) hcu ⟨WP.blind, va_recv hX.2.2.2.2.2.1.1 (hP.one hb) hc (q0 := 0) rfl, fun U hU hW => ⟨rfl, WP.of hX hP hA hS U hU hW⟩⟩ rfl hn hl.1 rfl (lv_room hW) hdg hf) hX hA hS (fun h' H1 locs1 hp hP1 hA1 hS1 => kk h' hp ls H1 locs1 hl hP1 hA1 hS1)
theorem j_callSv (hX : CX p s m args c cc nL own G B A) {i n maxL d mc ms : Nat} {y : MethodName} {bytes : ByteArray} {As : List Value} {post : hF → Prop} (hw : CwS own i y n bytes maxL none) (hct : Cv l G B y bytes maxL  d mc ms As h post) (hdg : decode cc pc = .ok (.invokestatic i, 3)) (hn : As.length = n) (hr : d + 1 ≤ R.frames ∧ 8 + (maxL + 11) + 60 * d ≤ R.locals) (hf : cells + mc ≤ R.cells ∧ slots + ms ≤ R.slots) (hW : (st.map fun v => v.category).sum ≤ 8) (kk : ∀ (h' : hF), post h' → J p l e R s m args below meth c Q nL G A (cells + mc) (slots + ms) (pc + 3) L st h') {st0 : List Value} (hst : st0 = As.reverse ++ st) : J p l e R s m args below meth c Q nL G A cells slots pc L st0 h := by
  subst hst
  intro ls H locs hl hP hA hS
  have hts := hX.2.2.2.2.1
  refine run_n (va_runS (As := As) ⟨hX.1, hX.2.1, hX.2.2.1, hX.2.2.2.1, hts⟩ (hct H.size) ⟨cwB_use hts hw.1 hr, hts _ hw.2⟩ ⟨WP.blind, fun U hU hW => ⟨rfl, WP.of hX hP hA hS U hU hW⟩⟩ rfl hn hl.1 rfl (lv_room hW) hdg hf) hX hA hS (fun h' H1 locs1 hp hP1 hA1 hS1 => kk h' hp ls H1 locs1 hl hP1 hA1 hS1)
theorem j_callSNv (hX : CX p s m args c cc nL own G B A) {i n maxL d mc ms : Nat} {y : MethodName} {host : String} {bytes : ByteArray} {As : List Value} {post : hF → Prop} (hw : CwN own i y host n bytes maxL none) (hstat : Cond.static y ∈ lw_g) (hct : Cv l G B y bytes maxL  d mc ms As h post) (hdg : decode cc pc = .ok (.invokestatic i, 3)) (hn : As.length = n) (hr : d + 1 ≤ R.frames ∧ 8 + (maxL + 11) + 60 * d ≤ R.locals) (hf : cells + mc ≤ R.cells ∧ slots + ms ≤ R.slots) (hW : (st.map fun v => v.category).sum ≤ 8) (kk : ∀ (h' : hF), post h' → J p l e R s m args below meth c Q nL G A (cells + mc) (slots + ms) (pc + 3) L st h') {st0 : List Value} (hst : st0 = As.reverse ++ st) : J p l e R s m args below meth c Q nL G A cells slots pc L st0 h := by
  subst hst
  intro ls H locs hl hP hA hS
  have hts := hX.2.2.2.2.1
  refine run_n (va_runSN (As := As) (host := host) ⟨hX.1, hX.2.1, hX.2.2.1, hX.2.2.2.1, hts⟩ (hct H.size) ⟨va_cnB n hts (good_g hw.2.2.1) rfl rfl rfl (hX.2.2.2.2.2.1.2.1 _ hw.1) (hts _ hw.2.1) ⟨hw.2.2.2.1.1, hw.2.2.2.1.2, hw.2.2.2.2⟩ hr, hts _ hstat, trivial⟩ ⟨WP.blind, fun U hU hW => ⟨rfl, WP.of hX hP hA hS U hU hW⟩⟩ rfl hn hl.1 rfl (lv_room hW) hdg hf) hX hA hS (fun h' H1 locs1 hp hP1 hA1 hS1 => kk h' hp ls H1 locs1 hl hP1 hA1 hS1)
theorem j_callI (hX : CX p s m args c cc nL own G B A) {i n maxL d mc ms b : Nat} {y : MethodName} {bytes : ByteArray} {As : List Value} {post : hF → Prop} (hw : CwI own i y n bytes maxL) (hct : Cv l G B y bytes maxL d mc ms (.ref b :: As) h post) (hdg : decode cc pc = .ok (.invokespecial i, 3)) (hn : As.length = n) (hr : d + 1 ≤ R.frames ∧ 8 + (maxL + 11) + 60 * d ≤ R.locals) (hf : cells + mc ≤ R.cells ∧ slots + ms ≤ R.slots) (hW : (st.map fun v => v.category).sum ≤ 8) (kk : ∀ (h' : hF), post h' → J p l e R s m args below meth c Q nL G A (cells + mc) (slots + ms) (pc + 3) L st h') {st0 : List Value} (hst : st0 = As.reverse ++ .ref b :: st) : J p l e R s m args below meth c Q nL G A cells slots pc L st0 h := by
  subst hst
  intro ls H locs hl hP hA hS
  have hts := hX.2.2.2.2.1
  refine run_n (va_runI (As := As) ⟨hX.1, hX.2.1, hX.2.2.1, hX.2.2.2.1, hts⟩ (hct H.size) ⟨cwB_use hts hw.1 hr, hw.2.2, hts _ hw.2.1⟩ ⟨WP.blind, fun U hU hW => ⟨rfl, WP.of hX hP hA hS U hU hW⟩⟩ rfl hn hl.1 rfl (lv_room hW) hdg hf) hX hA hS (fun h' H1 locs1 hp hP1 hA1 hS1 => kk h' hp ls H1 locs1 hl hP1 hA1 hS1)
theorem j_callIN (hX : CX p s m args c cc nL own G B A) {i n maxL d mc ms b : Nat} {y : MethodName} {host : String} {bytes : ByteArray} {As : List Value} {post : hF → Prop} (hw : CwN own i y host n bytes maxL none) (hw2 : y.name = "<init>" ∧ Cond.instanceMethod y ∈ lw_g) (hct : Cv l G B y bytes maxL d mc ms (.ref b :: As) h post) (hdg : decode cc pc = .ok (.invokespecial i, 3)) (hn : As.length = n) (hr : d + 1 ≤ R.frames ∧ 8 + (maxL + 11) + 60 * d ≤ R.locals) (hf : cells + mc ≤ R.cells ∧ slots + ms ≤ R.slots) (hW : (st.map fun v => v.category).sum ≤ 8) (kk : ∀ (h' : hF), post h' → J p l e R s m args below meth c Q nL G A (cells + mc) (slots + ms) (pc + 3) L st h') {st0 : List Value} (hst : st0 = As.reverse ++ .ref b :: st) : J p l e R s m args below meth c Q nL G A cells slots pc L st0 h := by
  subst hst
  intro ls H locs hl hP hA hS
  have hts := hX.2.2.2.2.1
  refine run_n (va_runIN (As := As) (host := host) ⟨hX.1, hX.2.1, hX.2.2.1, hX.2.2.2.1, hts⟩ (hct H.size) ⟨va_cnB n hts (good_g hw.2.2.1) rfl rfl rfl (hX.2.2.2.2.2.1.2.1 _ hw.1) (hts _ hw.2.1) ⟨hw.2.2.2.1.1, hw.2.2.2.1.2, hw.2.2.2.2⟩ hr, hw2.1, hts _ hw2.2⟩ ⟨WP.blind, fun U hU hW => ⟨rfl, WP.of hX hP hA hS U hU hW⟩⟩ rfl hn hl.1 rfl (lv_room hW) hdg hf) hX hA hS (fun h' H1 locs1 hp hP1 hA1 hS1 => kk h' hp ls H1 locs1 hl hP1 hA1 hS1)
theorem j_objInit (hX : CX p s m args c cc nL own G B A) {i b : Nat} (hl1 : Cond.methodLink own i Lib.objectInit ∈ lw_g) (hl2 : Cond.instanceMethod Lib.objectInit ∈ lw_g) (hl3 : Cond.code Lib.objectInit ⟨#[0xb1]⟩ 1 none ∈ lw_g) (hdg : decode cc pc = .ok (.invokespecial i, 3)) (hr : 1 ≤ R.frames ∧ 12 ≤ R.locals) (kk : J p l e R s m args below meth c Q nL G A cells slots (pc + 3) L [] h) : J p l e R s m args below meth c Q nL G A cells slots pc L [.ref b] h := by
  intro ls H locs hl hP hA hS
  have hts := hX.2.2.2.2.1
  refine W.objInit hX.1 hX.2.1 hX.2.2.2.1 (hts _ hl1) (hts _ hl2) (hts _ hl3) rfl (by rw [hX.2.2.1]; exact hl.1) rfl hdg hr.1 hr.2 ?_
  exact kk ls H locs hl hP hA hS
theorem j_castS (hX : CX p s m args c cc nL own G B A) {i a ci : Nat} {C : String} {T : u_T} {N : Nat} {fs : List Value} (hlk : Cond.classLink own i C ∈ lw_g) (hdg : decode cc pc = .ok (.checkcast i, 3)) (hb : h a = some (.inr (ci, fs))) (hc : vwCl[ci]? = some (C, T, N)) (kk : J p l e R s m args below meth c Q nL G A cells slots (pc + 3) L (.ref a :: st) h) : J p l e R s m args below meth c Q nL G A cells slots pc L (.ref a :: st) h := by
  intro ls H locs hl hP hA hS
  exact va_castS hX.1 hX.2.1 hX.2.2.2.1 (hX.2.2.2.2.1 _ hlk) (hX.2.2.2.2.2.1.1.1 ci _ hc).2 (va_recv hX.2.2.2.2.2.1.1 (hP.one hb) hc (q0 := 0) rfl) hdg (kk ls H locs hl hP hA hS)
theorem j_castP (hX : CX p s m args c cc nL own G B A) {i a ci : Nat} {T : u_T} {N : Nat} {fs : List Value} (hlk : Cond.classLink own i "AnswerSums$Part" ∈ lw_g) (hdg : decode cc pc = .ok (.checkcast i, 3)) (hb : h a = some (.inr (ci, fs))) (hc : vwCl[ci]? = some ("AnswerSums$Task", T, N)) (kk : J p l e R s m args below meth c Q nL G A cells slots (pc + 3) L (.ref a :: st) h) : J p l e R s m args below meth c Q nL G A cells slots pc L (.ref a :: st) h := by
  intro ls H locs hl hP hA hS
  exact va_castY hX.1 hX.2.1 hX.2.2.2.1 (hX.2.2.2.2.1 _ hlk) hX.2.2.2.2.2.1.2.2.1 (va_recv hX.2.2.2.2.2.1.1 (hP.one hb) hc (q0 := 0) rfl) hdg (kk ls H locs hl hP hA hS)
end JC
theorem lv_all_of {L : List (Nat × Value)} : ∀ {L' : List (Nat × Value)}, (∀ k : Nat, ∀ q, L'[k]? = some q → lv_get L q.1 = some q.2) → ∀ q ∈ L', lv_get L q.1 = some q.2 := fun h q hq => by
  obtain ⟨k, hk⟩ := List.getElem?_of_mem hq
  exact h k q hk
def lv_all (L : List (Nat × Value)) : List (Nat × Value) → Prop
  | [] => True
  | (i, v) :: t => lv_get L i = some v ∧ lv_all L t
theorem lv_all_mem {L : List (Nat × Value)} : ∀ {L' : List (Nat × Value)}, lv_all L L' → ∀ q ∈ L', lv_get L q.1 = some q.2
  | [], _, q, hq => by cases hq
  | (i, v) :: t, h, q, hq => by
    rcases List.mem_cons.mp hq with rfl | hq
    · exact h.1
    · exact lv_all_mem h.2 q hq
section JD
variable {p : Program} {l : Launch} {e : Env} {R : Room} {s : State} {m : MethodId} {args : Array Value} {below : List Frame} {meth : Method} {c : Code} {Q : State → Prop} {nL : Nat} {G : Gt} {A : Nat → Prop} {cells slots pc : Nat} {L : List (Nat × Value)} {st : List Value} {h : hF} {cc : ByteArray} {own : String} {B : Nat}
/-- other locals, fewer or in another order -/
theorem j_at {L' : List (Nat × Value)} (k : J p l e R s m args below meth c Q nL G A cells slots pc L' st h) (hs : lv_all L L') : J p l e R s m args below meth c Q nL G A cells slots pc L st h := j_sub k (lv_all_mem hs)
theorem j_acmp_eq (hX : CX p s m args c cc nL own G B A) {x y : Nat} {off : Int} (tgt : Nat) (hdg : decode cc pc = .ok (.if_acmp .eq off, 3)) (ht : (pc : Int) + off = (tgt : Int)) (kt : x = y → J p l e R s m args below meth c Q nL G A cells slots tgt L st h) (kf : x ≠ y → J p l e R s m args below meth c Q nL G A cells slots (pc + 3) L st h) : J p l e R s m args below meth c Q nL G A cells slots pc L (.ref y :: .ref x :: st) h := fun ls H locs hl hP hA hS => lv_acmp_eq (rx := some x) (ry := some y) hX.1 hX.2.1 hdg ht (fun q => kt (Option.some.inj q) ls H locs hl hP hA hS) (fun q => kf (fun z => q (by rw [z])) ls H locs hl hP hA hS)
theorem j_acmp_ne (hX : CX p s m args c cc nL own G B A) {x y : Nat} {off : Int} (tgt : Nat) (hdg : decode cc pc = .ok (.if_acmp .ne off, 3)) (ht : (pc : Int) + off = (tgt : Int)) (kt : x ≠ y → J p l e R s m args below meth c Q nL G A cells slots tgt L st h) (kf : x = y → J p l e R s m args below meth c Q nL G A cells slots (pc + 3) L st h) : J p l e R s m args below meth c Q nL G A cells slots pc L (.ref y :: .ref x :: st) h := fun ls H locs hl hP hA hS => lv_acmp_ne (rx := some x) (ry := some y) hX.1 hX.2.1 hdg ht (fun q => kt (fun z => q (by rw [z])) ls H locs hl hP hA hS) (fun q => kf (Option.some.inj q) ls H locs hl hP hA hS)
end JD
