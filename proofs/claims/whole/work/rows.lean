section
-- ===== PART A: goes FIRST, ahead of the names: the tables' words, and 'selects' of the private methods out of them =====
/-- a private method of a class that the tables say can be made, by its rows of tables_1 -/
def lw_okq (q : MethodName × Nat) : Prop := (q.1.cls ≠ "java/lang/invoke/MethodHandle" ∧ q.1.cls ≠ "java/lang/invoke/VarHandle") ∧ Cond.instantiable q.1.cls q.2 ∈ tables_1 ∧ Cond.privateMethod q.1 ∈ tables_1 ∧ Cond.instanceMethod q.1 ∈ tables_1
theorem lw_p0 : lw_okq (⟨"AnswerSums", "forgetFindings", "()V"⟩, 3) := ⟨⟨by decide +kernel, by decide +kernel⟩, List.mem_of_getElem? (i := 23) (by decide +kernel), List.mem_of_getElem? (i := 177) (by decide +kernel), List.mem_of_getElem? (i := 178) (by decide +kernel)⟩
theorem lw_p1 : lw_okq (⟨"AnswerSums", "findingOf", "(LAnswerSums$Task;)LAnswerSums$Finding;"⟩, 3) := ⟨⟨by decide +kernel, by decide +kernel⟩, List.mem_of_getElem? (i := 23) (by decide +kernel), List.mem_of_getElem? (i := 220) (by decide +kernel), List.mem_of_getElem? (i := 221) (by decide +kernel)⟩
theorem lw_p2 : lw_okq (⟨"AnswerSums$Core", "leastShareAbove", "(LAnswerSums$Task;)J"⟩, 3) := ⟨⟨by decide +kernel, by decide +kernel⟩, List.mem_of_getElem? (i := 31) (by decide +kernel), List.mem_of_getElem? (i := 233) (by decide +kernel), List.mem_of_getElem? (i := 234) (by decide +kernel)⟩
theorem lw_p3 : lw_okq (⟨"AnswerSums$Core", "longestSection", "(LAnswerSums$Task;I)J"⟩, 3) := ⟨⟨by decide +kernel, by decide +kernel⟩, List.mem_of_getElem? (i := 31) (by decide +kernel), List.mem_of_getElem? (i := 272) (by decide +kernel), List.mem_of_getElem? (i := 273) (by decide +kernel)⟩
theorem lw_p4 : lw_okq (⟨"AnswerSums$Core", "ceilingOf", "(I)I"⟩, 3) := ⟨⟨by decide +kernel, by decide +kernel⟩, List.mem_of_getElem? (i := 31) (by decide +kernel), List.mem_of_getElem? (i := 276) (by decide +kernel), List.mem_of_getElem? (i := 277) (by decide +kernel)⟩
theorem lw_p5 : lw_okq (⟨"AnswerSums$Core", "spanFrom", "(LAnswerSums$Task;JJJ)J"⟩, 3) := ⟨⟨by decide +kernel, by decide +kernel⟩, List.mem_of_getElem? (i := 31) (by decide +kernel), List.mem_of_getElem? (i := 299) (by decide +kernel), List.mem_of_getElem? (i := 300) (by decide +kernel)⟩
theorem lw_p6 : lw_okq (⟨"AnswerSums$Core", "takenAbove", "(LAnswerSums$Task;J)J"⟩, 3) := ⟨⟨by decide +kernel, by decide +kernel⟩, List.mem_of_getElem? (i := 31) (by decide +kernel), List.mem_of_getElem? (i := 303) (by decide +kernel), List.mem_of_getElem? (i := 304) (by decide +kernel)⟩
theorem lw_p7 : lw_okq (⟨"AnswerSums", "rowOfItself", "(LAnswerSums$Task;II)J"⟩, 3) := ⟨⟨by decide +kernel, by decide +kernel⟩, List.mem_of_getElem? (i := 23) (by decide +kernel), List.mem_of_getElem? (i := 329) (by decide +kernel), List.mem_of_getElem? (i := 330) (by decide +kernel)⟩
theorem lw_p8 : lw_okq (⟨"AnswerSums", "rowOfPart", "(LAnswerSums$Part;JI)J"⟩, 3) := ⟨⟨by decide +kernel, by decide +kernel⟩, List.mem_of_getElem? (i := 23) (by decide +kernel), List.mem_of_getElem? (i := 335) (by decide +kernel), List.mem_of_getElem? (i := 336) (by decide +kernel)⟩
theorem lw_p9 : lw_okq (⟨"AnswerSums", "allHaveAnswers", "()Z"⟩, 3) := ⟨⟨by decide +kernel, by decide +kernel⟩, List.mem_of_getElem? (i := 23) (by decide +kernel), List.mem_of_getElem? (i := 345) (by decide +kernel), List.mem_of_getElem? (i := 346) (by decide +kernel)⟩
theorem lw_p10 : lw_okq (⟨"AnswerSums$Phases", "take", "(Ljava/util/ArrayList;)V"⟩, 10) := ⟨⟨by decide +kernel, by decide +kernel⟩, List.mem_of_getElem? (i := 76) (by decide +kernel), List.mem_of_getElem? (i := 386) (by decide +kernel), List.mem_of_getElem? (i := 387) (by decide +kernel)⟩
theorem lw_p11 : lw_okq (⟨"AnswerSums$Phases", "start", "(J)V"⟩, 10) := ⟨⟨by decide +kernel, by decide +kernel⟩, List.mem_of_getElem? (i := 76) (by decide +kernel), List.mem_of_getElem? (i := 404) (by decide +kernel), List.mem_of_getElem? (i := 405) (by decide +kernel)⟩
theorem lw_p12 : lw_okq (⟨"AnswerSums$Phases", "run", "()V"⟩, 10) := ⟨⟨by decide +kernel, by decide +kernel⟩, List.mem_of_getElem? (i := 76) (by decide +kernel), List.mem_of_getElem? (i := 409) (by decide +kernel), List.mem_of_getElem? (i := 410) (by decide +kernel)⟩
theorem lw_p13 : lw_okq (⟨"AnswerSums$Phases", "hasMore", "()Z"⟩, 10) := ⟨⟨by decide +kernel, by decide +kernel⟩, List.mem_of_getElem? (i := 76) (by decide +kernel), List.mem_of_getElem? (i := 414) (by decide +kernel), List.mem_of_getElem? (i := 415) (by decide +kernel)⟩
theorem lw_p14 : lw_okq (⟨"AnswerSums$Phases", "chosenAt", "(I)I"⟩, 10) := ⟨⟨by decide +kernel, by decide +kernel⟩, List.mem_of_getElem? (i := 76) (by decide +kernel), List.mem_of_getElem? (i := 418) (by decide +kernel), List.mem_of_getElem? (i := 419) (by decide +kernel)⟩
theorem lw_p15 : lw_okq (⟨"AnswerSums$Phases", "goesBefore", "(II)Z"⟩, 10) := ⟨⟨by decide +kernel, by decide +kernel⟩, List.mem_of_getElem? (i := 76) (by decide +kernel), List.mem_of_getElem? (i := 422) (by decide +kernel), List.mem_of_getElem? (i := 423) (by decide +kernel)⟩
def lw_privs_1 : List (MethodName × Nat) := [(⟨"AnswerSums", "forgetFindings", "()V"⟩, 3), (⟨"AnswerSums", "findingOf", "(LAnswerSums$Task;)LAnswerSums$Finding;"⟩, 3), (⟨"AnswerSums$Core", "leastShareAbove", "(LAnswerSums$Task;)J"⟩, 3), (⟨"AnswerSums$Core", "longestSection", "(LAnswerSums$Task;I)J"⟩, 3), (⟨"AnswerSums$Core", "ceilingOf", "(I)I"⟩, 3), (⟨"AnswerSums$Core", "spanFrom", "(LAnswerSums$Task;JJJ)J"⟩, 3), (⟨"AnswerSums$Core", "takenAbove", "(LAnswerSums$Task;J)J"⟩, 3), (⟨"AnswerSums", "rowOfItself", "(LAnswerSums$Task;II)J"⟩, 3), (⟨"AnswerSums", "rowOfPart", "(LAnswerSums$Part;JI)J"⟩, 3), (⟨"AnswerSums", "allHaveAnswers", "()Z"⟩, 3), (⟨"AnswerSums$Phases", "take", "(Ljava/util/ArrayList;)V"⟩, 10), (⟨"AnswerSums$Phases", "start", "(J)V"⟩, 10), (⟨"AnswerSums$Phases", "run", "()V"⟩, 10), (⟨"AnswerSums$Phases", "hasMore", "()Z"⟩, 10), (⟨"AnswerSums$Phases", "chosenAt", "(I)I"⟩, 10), (⟨"AnswerSums$Phases", "goesBefore", "(II)Z"⟩, 10)]
theorem lw_r1 : ∀ q ∈ lw_privs_1, lw_okq q := List.forall_mem_cons.mpr ⟨lw_p0, List.forall_mem_cons.mpr ⟨lw_p1, List.forall_mem_cons.mpr ⟨lw_p2, List.forall_mem_cons.mpr ⟨lw_p3, List.forall_mem_cons.mpr ⟨lw_p4, List.forall_mem_cons.mpr ⟨lw_p5, List.forall_mem_cons.mpr ⟨lw_p6, List.forall_mem_cons.mpr ⟨lw_p7, List.forall_mem_cons.mpr ⟨lw_p8, List.forall_mem_cons.mpr ⟨lw_p9, List.forall_mem_cons.mpr ⟨lw_p10, List.forall_mem_cons.mpr ⟨lw_p11, List.forall_mem_cons.mpr ⟨lw_p12, List.forall_mem_cons.mpr ⟨lw_p13, List.forall_mem_cons.mpr ⟨lw_p14, List.forall_mem_cons.mpr ⟨lw_p15, fun _ h => absurd h List.not_mem_nil⟩⟩⟩⟩⟩⟩⟩⟩⟩⟩⟩⟩⟩⟩⟩⟩
theorem lw_p16 : lw_okq (⟨"AnswerSums$Phases", "work", "(II)V"⟩, 10) := ⟨⟨by decide +kernel, by decide +kernel⟩, List.mem_of_getElem? (i := 76) (by decide +kernel), List.mem_of_getElem? (i := 426) (by decide +kernel), List.mem_of_getElem? (i := 427) (by decide +kernel)⟩
theorem lw_p17 : lw_okq (⟨"java/util/ArrayList", "add", "(Ljava/lang/Object;[Ljava/lang/Object;I)V"⟩, 3) := ⟨⟨by decide +kernel, by decide +kernel⟩, List.mem_of_getElem? (i := 37) (by decide +kernel), List.mem_of_getElem? (i := 498) (by decide +kernel), List.mem_of_getElem? (i := 499) (by decide +kernel)⟩
theorem lw_p18 : lw_okq (⟨"java/util/ArrayList", "grow", "()[Ljava/lang/Object;"⟩, 3) := ⟨⟨by decide +kernel, by decide +kernel⟩, List.mem_of_getElem? (i := 37) (by decide +kernel), List.mem_of_getElem? (i := 502) (by decide +kernel), List.mem_of_getElem? (i := 503) (by decide +kernel)⟩
theorem lw_p19 : lw_okq (⟨"java/util/ArrayList", "grow", "(I)[Ljava/lang/Object;"⟩, 3) := ⟨⟨by decide +kernel, by decide +kernel⟩, List.mem_of_getElem? (i := 37) (by decide +kernel), List.mem_of_getElem? (i := 506) (by decide +kernel), List.mem_of_getElem? (i := 507) (by decide +kernel)⟩
theorem lw_p20 : lw_okq (⟨"java/lang/Throwable", "fillInStackTrace", "(I)Ljava/lang/Throwable;"⟩, 6) := ⟨⟨by decide +kernel, by decide +kernel⟩, List.mem_of_getElem? (i := 578) (by decide +kernel), List.mem_of_getElem? (i := 576) (by decide +kernel), List.mem_of_getElem? (i := 577) (by decide +kernel)⟩
theorem lw_p21 : lw_okq (⟨"AnswerSumsModel", "isTask", "(I)Z"⟩, 22) := ⟨⟨by decide +kernel, by decide +kernel⟩, List.mem_of_getElem? (i := 672) (by decide +kernel), List.mem_of_getElem? (i := 765) (by decide +kernel), List.mem_of_getElem? (i := 766) (by decide +kernel)⟩
theorem lw_p22 : lw_okq (⟨"AnswerSumsModel", "search", "(I)J"⟩, 22) := ⟨⟨by decide +kernel, by decide +kernel⟩, List.mem_of_getElem? (i := 672) (by decide +kernel), List.mem_of_getElem? (i := 795) (by decide +kernel), List.mem_of_getElem? (i := 796) (by decide +kernel)⟩
theorem lw_p23 : lw_okq (⟨"AnswerSumsModel", "blocking", "(I)J"⟩, 22) := ⟨⟨by decide +kernel, by decide +kernel⟩, List.mem_of_getElem? (i := 672) (by decide +kernel), List.mem_of_getElem? (i := 799) (by decide +kernel), List.mem_of_getElem? (i := 800) (by decide +kernel)⟩
theorem lw_p24 : lw_okq (⟨"AnswerSumsModel", "reaches", "(II)Z"⟩, 22) := ⟨⟨by decide +kernel, by decide +kernel⟩, List.mem_of_getElem? (i := 672) (by decide +kernel), List.mem_of_getElem? (i := 803) (by decide +kernel), List.mem_of_getElem? (i := 804) (by decide +kernel)⟩
theorem lw_p25 : lw_okq (⟨"AnswerSumsModel", "need", "(IIJJ)J"⟩, 22) := ⟨⟨by decide +kernel, by decide +kernel⟩, List.mem_of_getElem? (i := 672) (by decide +kernel), List.mem_of_getElem? (i := 807) (by decide +kernel), List.mem_of_getElem? (i := 808) (by decide +kernel)⟩
theorem lw_p26 : lw_okq (⟨"AnswerSumsModel", "cost", "(I)J"⟩, 22) := ⟨⟨by decide +kernel, by decide +kernel⟩, List.mem_of_getElem? (i := 672) (by decide +kernel), List.mem_of_getElem? (i := 811) (by decide +kernel), List.mem_of_getElem? (i := 812) (by decide +kernel)⟩
theorem lw_p27 : lw_okq (⟨"AnswerSumsModel", "comes", "(IJ)J"⟩, 22) := ⟨⟨by decide +kernel, by decide +kernel⟩, List.mem_of_getElem? (i := 672) (by decide +kernel), List.mem_of_getElem? (i := 815) (by decide +kernel), List.mem_of_getElem? (i := 816) (by decide +kernel)⟩
theorem lw_p28 : lw_okq (⟨"AnswerSumsModel", "later", "(II)J"⟩, 22) := ⟨⟨by decide +kernel, by decide +kernel⟩, List.mem_of_getElem? (i := 672) (by decide +kernel), List.mem_of_getElem? (i := 823) (by decide +kernel), List.mem_of_getElem? (i := 824) (by decide +kernel)⟩
theorem lw_p29 : lw_okq (⟨"AnswerSumsModel", "allAnswer", "()Z"⟩, 22) := ⟨⟨by decide +kernel, by decide +kernel⟩, List.mem_of_getElem? (i := 672) (by decide +kernel), List.mem_of_getElem? (i := 836) (by decide +kernel), List.mem_of_getElem? (i := 837) (by decide +kernel)⟩
theorem lw_p30 : lw_okq (⟨"AnswerSumsModel", "load", "()J"⟩, 22) := ⟨⟨by decide +kernel, by decide +kernel⟩, List.mem_of_getElem? (i := 672) (by decide +kernel), List.mem_of_getElem? (i := 846) (by decide +kernel), List.mem_of_getElem? (i := 847) (by decide +kernel)⟩
theorem lw_p31 : lw_okq (⟨"AnswerSumsModel", "longest", "(IJ)J"⟩, 22) := ⟨⟨by decide +kernel, by decide +kernel⟩, List.mem_of_getElem? (i := 672) (by decide +kernel), List.mem_of_getElem? (i := 860) (by decide +kernel), List.mem_of_getElem? (i := 861) (by decide +kernel)⟩
def lw_privs_2 : List (MethodName × Nat) := [(⟨"AnswerSums$Phases", "work", "(II)V"⟩, 10), (⟨"java/util/ArrayList", "add", "(Ljava/lang/Object;[Ljava/lang/Object;I)V"⟩, 3), (⟨"java/util/ArrayList", "grow", "()[Ljava/lang/Object;"⟩, 3), (⟨"java/util/ArrayList", "grow", "(I)[Ljava/lang/Object;"⟩, 3), (⟨"java/lang/Throwable", "fillInStackTrace", "(I)Ljava/lang/Throwable;"⟩, 6), (⟨"AnswerSumsModel", "isTask", "(I)Z"⟩, 22), (⟨"AnswerSumsModel", "search", "(I)J"⟩, 22), (⟨"AnswerSumsModel", "blocking", "(I)J"⟩, 22), (⟨"AnswerSumsModel", "reaches", "(II)Z"⟩, 22), (⟨"AnswerSumsModel", "need", "(IIJJ)J"⟩, 22), (⟨"AnswerSumsModel", "cost", "(I)J"⟩, 22), (⟨"AnswerSumsModel", "comes", "(IJ)J"⟩, 22), (⟨"AnswerSumsModel", "later", "(II)J"⟩, 22), (⟨"AnswerSumsModel", "allAnswer", "()Z"⟩, 22), (⟨"AnswerSumsModel", "load", "()J"⟩, 22), (⟨"AnswerSumsModel", "longest", "(IJ)J"⟩, 22)]
theorem lw_r2 : ∀ q ∈ lw_privs_2, lw_okq q := List.forall_mem_cons.mpr ⟨lw_p16, List.forall_mem_cons.mpr ⟨lw_p17, List.forall_mem_cons.mpr ⟨lw_p18, List.forall_mem_cons.mpr ⟨lw_p19, List.forall_mem_cons.mpr ⟨lw_p20, List.forall_mem_cons.mpr ⟨lw_p21, List.forall_mem_cons.mpr ⟨lw_p22, List.forall_mem_cons.mpr ⟨lw_p23, List.forall_mem_cons.mpr ⟨lw_p24, List.forall_mem_cons.mpr ⟨lw_p25, List.forall_mem_cons.mpr ⟨lw_p26, List.forall_mem_cons.mpr ⟨lw_p27, List.forall_mem_cons.mpr ⟨lw_p28, List.forall_mem_cons.mpr ⟨lw_p29, List.forall_mem_cons.mpr ⟨lw_p30, List.forall_mem_cons.mpr ⟨lw_p31, fun _ h => absurd h List.not_mem_nil⟩⟩⟩⟩⟩⟩⟩⟩⟩⟩⟩⟩⟩⟩⟩⟩
def lw_privs : List (MethodName × Nat) := lw_privs_1 ++ (lw_privs_2)
def lw_tbl : List Cond := k2_sels lw_privs ++ tables_1
theorem lw_privs_ok : ∀ q ∈ lw_privs, lw_okq q := by
  show ∀ q ∈ lw_privs_1 ++ (lw_privs_2), lw_okq q
  exact List.forall_mem_append.mpr ⟨lw_r1, lw_r2⟩
/-! ===== BEGIN words of one list among another's, by their places ===== -/
theorem goodIn_r {big : List Cond} (ws : List Cond) (ps : List Nat) (hp : ws = ps.filterMap (fun i => big[i]?)) (h : ws.all goodWord = true) : GoodIn big ws := by
  intro w hw
  have h1 := List.all_eq_true.mp h w hw
  rw [hp] at hw
  obtain ⟨i, -, hi⟩ := List.mem_filterMap.mp hw
  have hm : w ∈ big := by first | exact List.mem_of_getElem? hi | exact List.getElem?_mem hi
  exact ⟨hm, good_of_word h1⟩
theorem goodIn_app {big a b : List Cond} (ha : GoodIn big a) (hb : GoodIn big b) : GoodIn big (a ++ b) := fun w h => (List.mem_append.mp h).elim (ha w) (hb w)
theorem goodIn_ca {big a b : List Cond} {c : Cond} (ha : GoodIn big (c :: a)) (hb : GoodIn big b) : GoodIn big (c :: (a ++ b)) := fun w h => (List.mem_cons.mp h).elim (fun e => ha w (List.mem_cons.mpr (Or.inl e))) (fun h => (List.mem_append.mp h).elim (fun h => ha w (List.mem_cons.mpr (Or.inr h))) (hb w))
theorem goodIn_sub {big ws : List Cond} (hm : ∀ w ∈ ws, w ∈ big) (h : ws.all goodWord = true) : GoodIn big ws := fun w hw => ⟨hm w hw, good_of_word (List.all_eq_true.mp h w hw)⟩
/-! ===== END ===== -/

/-! ===== BEGIN exceptions that leave a method, and their catching by the caller (launches without stack traces) ===== -/
section VXA
/-! The laws vx_back, vx_callV, vx_callS, vx_callSW, vx_throw0, vx_throwS follow proofs of the library, with one case more: JvmDerived/Free/Laws.lean (Back.of_free), Shelf42/LK1.lean (callV, callS), Shelf/KitTraced.lean (throwNew0V, throwNewS). -/
/-- where a method has thrown q: the class by its name, the cell, what was written, the world -/
def vx_T (XC : String → State → State → Prop) (st : State) (q : Addr) (t : State) (mc ms : Nat) (free : Addr → Prop) : Prop :=
  ∃ (E : String) (ce : Cell) (L : List Loc), XC E st t ∧ t.heap[q]? = some ce ∧ ce.vm = .none ∧ st.vm.findClass E = some ce.cls ∧ st.WarmedH t.vm ∧ st.sameButNew ({ t with vm := st.vm } : State) L mc ms ∧ ∀ z ∈ L, free z.base
def vx_Q (Qc : Array Value → State → Outcome → State → Prop) (XC : String → State → State → Prop) (mc ms : Nat) (free : Addr → Prop) : Array Value → State → Outcome → State → Prop := fun a st o t =>
  (Qc a st o t ∧ ∃ L, FrameEnd st o t L mc ms ∧ ∀ q ∈ L, free q.base) ∨ ∃ q, o = .threw q ∧ vx_T XC st q t mc ms free
/-- a callee that returns or throws -/
def vx_Met (l : Launch) (y : MethodName) (ws : List Cond) (rm : Room) (Pc : Array Value → State → Prop) (Qc : Array Value → State → Outcome → State → Prop) (XC : String → State → State → Prop) (mc ms : Nat) (free : Addr → Prop) : Prop :=
  MetFree l y (headSpec ws rm) Pc (fun _ _ _ _ _ => True) (vx_Q Qc XC mc ms free)
def vx_Post (XC : String → State → State → Prop) (mc ms : Nat) (free : Addr → Prop) : Pt → Array Value → Addr → Pt → Prop := fun A a q B =>
  ∃ (g : JFrame) (mk : MethodId) (t : State) (L : List Loc) (E : String) (ce : Cell), B.U.heap = t.heap ∧ B.U.vm = t.vm ∧ XC E (A.U.calling g mk a) t ∧ t.heap[q]? = some ce ∧ ce.vm = .none ∧ A.U.vm.findClass E = some ce.cls ∧ B.locs = A.locs ++ L ∧ (∀ z ∈ L, free z.base) ∧ B.cells = A.cells + mc ∧ B.slots = A.slots + ms
def vx_Back (l : Launch) (R : Room) (p : Program) (e : Env) (below : List Frame) (s : State) (sargs : Array Value) (y : MethodName) (len W9 : Nat)
    (Pre : Pt → Array Value → Prop) (Post : Pt → Array Value → Option Value → Pt → Prop) (PostX : Pt → Array Value → Addr → Pt → Prop) : Prop :=
  ∀ (m : MethodId) (meth : Method) (c : Code) (A : Pt) (g : JFrame) (ig : Instr) (mk : MethodId) (a : Array Value),
    Stand p l e R s m sargs below meth c A.U A.locs A.cells A.slots → g.method = m → g.locals.size = c.maxLocals → decode c.code g.pc = .ok (ig, len) →
    2 * g.monitorRoom + (g.stack.map fun v => v.category).sum ≤ W9 → A.U.methodNamed? y = some mk → Pre A a →
    (∃ (v : Option Value) (B : Pt), Stand p l e R s m sargs below meth c B.U B.locs B.cells B.slots ∧ Post A a v B ∧
      Steps p.tables e below (doInvoke e (A.U.setTop g) [] mk a).1 (B.U.setTop { g with pc := g.pc + len, stack := v.toList ++ g.stack })) ∨
    (∃ (q : Addr) (B : Pt), Stand p l e R s m sargs below meth c B.U B.locs B.cells B.slots ∧ PostX A a q B ∧
      Steps p.tables e below (doInvoke e (A.U.setTop g) [] mk a).1 ((B.U.setTop g).pushFrame (.throwing q)))
section Payer
variable {l : Launch} {R : Room} {p : Program} {e : Env} {below : List Frame} {s : State} {sargs : Array Value} {y : MethodName} {len W9 : Nat}
theorem vx_back {ws : List Cond} {rm : Room} {Pc : Array Value → State → Prop} {Qc : Array Value → State → Outcome → State → Prop} {XC : String → State → State → Prop} {mc ms : Nat} {free : Addr → Prop} {bytes : ByteArray} {maxL : Nat} {ret : Option FieldType}
    (hM : vx_Met l y ws rm Pc Qc XC mc ms free) (hblind : FrameBlind Pc) (hrc : rm.cells = mc) (hrs : rm.slots = ms)
    (hframes : rm.frames + 1 ≤ R.frames) (hlocals : W9 + (maxL + 11) + rm.locals ≤ R.locals)
    (hws : ∀ w ∈ ws, ∀ a' U, s.WarmedH U.vm → w.before a' U = true) (hcode : Cond.code y bytes maxL ret ∈ ws) (hinit : ∀ a' U, s.WarmedH U.vm → (Cond.initialized y.cls).before a' U = true) :
    vx_Back l R p e below s sargs y len W9 (PreOf R mc ms Pc) (PostOf Qc mc ms free) (vx_Post XC mc ms free) := by
  intro m meth c A g ig mk a X hg hsize hdg hW hn hp
  have h1 : (headSpec ws rm).pre.before a A.U = true := atoms_intro fun w hw => hws w hw _ _ X.warmed
  have h2 : (Cond.code y bytes maxL ret).before a A.U = true := hws _ hcode _ _ X.warmed
  have h3 : (Cond.initialized y.cls).before a A.U = true := hinit _ _ X.warmed
  have h4 : A.cells + (headSpec ws rm).room.cells ≤ R.cells := by rw [show (headSpec ws rm).room.cells = mc from hrc]; exact hp.1
  have h5 : A.slots + (headSpec ws rm).room.slots ≤ R.slots := by rw [show (headSpec ws rm).room.slots = ms from hrs]; exact hp.2.1
  have hPc : Pc a (A.U.calling g mk a) := hblind _ _ _ _ hp.2.2
  obtain ⟨U, Ls, c0, s0⟩ := A
  dsimp only [Pt.U, Pt.locs, Pt.cells, Pt.slots] at h1 h2 h3 h4 h5 X hn hPc ⊢
  obtain ⟨methY, cY, hmY, hcY, -, hlY, -, -, -, -⟩ := Cond.code_spec hn h2
  obtain ⟨kY, hkY, -⟩ := className_of_methodNamed hn
  have hinitY : kY.init = .initialized := Cond.initialized_spec (findClass_of_methodNamed hn) hkY h3
  have h : At U g.method c below := by rw [hg]; exact X.here
  have hlocals9 : W9 + (maxL + 11) + (headSpec ws rm).room.locals ≤ R.locals := hlocals
  have happ : (headSpec ws rm).appliesLoose y e.platform (U.calling g mk a) = true :=
    Spec.appliesLoose_calling (g := g) h hdg hn hkY hinitY
      (X.room_calling (g := g) (R' := (headSpec ws rm).room) hsize hmY hcY hframes (by rw [hlY]; omega) h4 h5) h1
  obtain ⟨mid, hmid⟩ := h.above
  have hfr : (U.setTop g).frames = (.java g :: mid) ++ below := by rw [State.frames_setTop' g h.top, hmid]; rfl
  obtain ⟨o, s₂, hsteps, -, hend, hq⟩ := Steps.callFree hM p X.admits X.cas X.clock (acts := []) hfr happ hPc trivial
  have hq' : vx_Q Qc XC mc ms free a (U.calling g mk a) o s₂ := hq
  rw [State.frames_setTop' g h.top] at hend
  obtain ⟨g₀, hg0⟩ := Option.isSome_iff_exists.mp h.top
  obtain ⟨r, hr⟩ := State.topJava?_eq_some.mp hg0
  have hr' : (({ U with heap := s₂.heap, slotsUsed := s₂.slotsUsed } : State).setVm s₂.vm).frames = .java g₀ :: r := hr
  rcases hq' with ⟨hqc, L, hfe, hL⟩ | ⟨q, rfl, E, ce, L, hx, hce, hcv, hcl, hW₂, hsm, hL⟩
  · obtain ⟨⟨v, rfl⟩, hW₂, e2, q2, q3, q4, q5, q6⟩ := id hfe
    have e3 : s₂ = ({ (U.calling g mk a).setFrames s₂.frames with heap := s₂.heap, slotsUsed := s₂.slotsUsed } : State).setVm s₂.vm := by
      have : s₂ = ({ s₂ with vm := (U.calling g mk a).vm } : State).setVm s₂.vm := rfl
      rw [e2] at this
      exact this
    obtain ⟨c₂, i₂, len₂, hc₂, hd₂, hf₂⟩ := hend
    have hW' : U.WarmedH s₂.vm := hW₂
    have hcc : c₂ = c := by
      have h1 : s₂.code? g.method = U.code? g.method := by
        rw [State.code?_eq, State.code?_eq, hW'.alike.method?]
      exact Option.some.inj (hc₂.symm.trans (h1.trans h.code))
    subst hcc
    have hlen : len₂ = len := by rw [hdg] at hd₂; cases hd₂; rfl
    subst hlen
    have hs₂ : s₂ = (({ U with heap := s₂.heap, slotsUsed := s₂.slotsUsed } : State).setVm s₂.vm).setTop { g with pc := g.pc + len₂, stack := v.toList ++ g.stack } := by
      refine e3.trans ?_
      rw [hf₂, State.calling_eq h.top, State.setFrames_setFrames, State.setTop_of_frames _ hr', hr]
      rfl
    have hsame : U.sameButNew ({ U with heap := s₂.heap, slotsUsed := s₂.slotsUsed } : State) L mc ms := by
      refine ⟨?_, q2, q3, q4, q5, q6⟩
      obtain ⟨t, ht, -⟩ := State.frames_cons hr
      show ({ U with heap := s₂.heap, slotsUsed := s₂.slotsUsed } : State) = { U.setFrames U.frames with heap := s₂.heap, slotsUsed := s₂.slotsUsed }
      rw [State.setFrames_self ht]
    subst hg
    refine Or.inl ⟨v, ⟨(({ U with heap := s₂.heap, slotsUsed := s₂.slotsUsed } : State).setVm s₂.vm), Ls ++ L, c0 + mc, s0 + ms⟩,
      ⟨X.admits, X.cas, X.clock, X.frames, X.room, X.hears, X.method, X.code, (X.here.setHeapUsed s₂.heap s₂.slotsUsed).setVm hW'.alike, X.tail, State.WarmedH.trans X.warmed hW', X.limits, X.bytes, X.same.trans (hsame.setVm s.vm)⟩,
      ⟨g, mk, s₂, L, rfl, rfl, hqc, rfl, hL, rfl, rfl⟩, ?_⟩
    show Steps p.tables e below _ ((({ U with heap := s₂.heap, slotsUsed := s₂.slotsUsed } : State).setVm s₂.vm).setTop { g with pc := g.pc + len₂, stack := v.toList ++ g.stack })
    rw [← hs₂]
    exact hsteps
  · obtain ⟨e2, q2, q3, q4, q5, q6⟩ := id hsm
    have e3 : s₂ = ({ (U.calling g mk a).setFrames s₂.frames with heap := s₂.heap, slotsUsed := s₂.slotsUsed } : State).setVm s₂.vm := by
      have : s₂ = ({ s₂ with vm := (U.calling g mk a).vm } : State).setVm s₂.vm := rfl
      rw [e2] at this
      exact this
    have hf₂ : s₂.frames = .throwing q :: .java g :: U.frames.tail := hend
    have hW' : U.WarmedH s₂.vm := hW₂
    have hs₂ : s₂ = ((({ U with heap := s₂.heap, slotsUsed := s₂.slotsUsed } : State).setVm s₂.vm).setTop g).pushFrame (.throwing q) := by
      refine e3.trans ?_
      rw [hf₂, State.calling_eq h.top, State.setFrames_setFrames, State.pushFrame, State.frames_setTop _ hr', State.setTop_of_frames _ hr', State.setFrames_setFrames, hr]
      rfl
    have hsame : U.sameButNew ({ U with heap := s₂.heap, slotsUsed := s₂.slotsUsed } : State) L mc ms := by
      refine ⟨?_, q2, q3, q4, q5, q6⟩
      obtain ⟨t, ht, -⟩ := State.frames_cons hr
      show ({ U with heap := s₂.heap, slotsUsed := s₂.slotsUsed } : State) = { U.setFrames U.frames with heap := s₂.heap, slotsUsed := s₂.slotsUsed }
      rw [State.setFrames_self ht]
    subst hg
    refine Or.inr ⟨q, ⟨(({ U with heap := s₂.heap, slotsUsed := s₂.slotsUsed } : State).setVm s₂.vm), Ls ++ L, c0 + mc, s0 + ms⟩,
      ⟨X.admits, X.cas, X.clock, X.frames, X.room, X.hears, X.method, X.code, (X.here.setHeapUsed s₂.heap s₂.slotsUsed).setVm hW'.alike, X.tail, State.WarmedH.trans X.warmed hW', X.limits, X.bytes, X.same.trans (hsame.setVm s.vm)⟩,
      ⟨g, mk, s₂, L, E, ce, rfl, rfl, hx, hce, hcv, hcl, rfl, hL, rfl, rfl⟩, ?_⟩
    show Steps p.tables e below _ (((({ U with heap := s₂.heap, slotsUsed := s₂.slotsUsed } : State).setVm s₂.vm).setTop g).pushFrame (.throwing q))
    rw [← hs₂]
    exact hsteps
end Payer
section Calls
variable {p : Program} {l : Launch} {e : Env} {R : Room} {s : State} {m : MethodId} {args : Array Value} {below : List Frame} {meth : Method} {c : Code} {T : State} {locs : List Loc} {cells slots : Nat}
theorem vx_callV (X : Stand p l e R s m args below meth c T locs cells slots) (hexec : p.tables.exec = Jvm.exec) {own C : String} {index : Nat} {y : MethodName} {bytes : ByteArray} {maxL : Nat} {ret : Option FieldType}
    (hown : s.vm.findClass own = some m.cls) (hlink : (Cond.methodLink own index y).before args s = true) (hinst : (Cond.instanceMethod y).before args s = true) (hsel : (Cond.selects C y y).before args s = true)
    (hcode : (Cond.code y bytes maxL ret).before args s = true) (hy : y.cls ≠ "java/lang/invoke/MethodHandle" ∧ y.cls ≠ "java/lang/invoke/VarHandle")
    {W9 : Nat} {Pre : Pt → Array Value → Prop} {Post : Pt → Array Value → Option Value → Pt → Prop} {PostX : Pt → Array Value → Addr → Pt → Prop} (hK : vx_Back l R p e below s args y 3 W9 Pre Post PostX)
    {b : Addr} {cellB : Cell} (hcell : T.heap[b]? = some cellB) (hobj : cellB.vm.isStatics = false) (hcls : s.vm.findClass C = some cellB.cls)
    {g : JFrame} (hg : g.method = m) (hsize : g.locals.size = c.maxLocals) {argsL rest : List Value} (hlen : ∀ sig, parseMethodDescriptor y.desc = some sig → argsL.length = sig.parameters.length)
    (hstack : g.stack = argsL.reverse ++ .ref b :: rest) (hW : 2 * g.monitorRoom + (rest.map fun v => v.category).sum ≤ W9) (hdg : decode c.code g.pc = .ok (.invokevirtual index, 3))
    (hpre : ∀ vm₁, s.WarmedH vm₁ → Pre ⟨T.setVm vm₁, locs, cells, slots⟩ (Value.ref b :: argsL).toArray) :
    (∃ (v : Option Value) (vm₁ : Vm) (B : Pt), s.WarmedH vm₁ ∧ Stand p l e R s m args below meth c B.U B.locs B.cells B.slots ∧ Post ⟨T.setVm vm₁, locs, cells, slots⟩ (Value.ref b :: argsL).toArray v B ∧
      ∀ target, Steps p.tables e below (B.U.setTop { g with pc := g.pc + 3, stack := v.toList ++ rest }) target → Steps p.tables e below (T.setTop g) target) ∨
    (∃ (q : Addr) (vm₁ : Vm) (B : Pt), s.WarmedH vm₁ ∧ Stand p l e R s m args below meth c B.U B.locs B.cells B.slots ∧ PostX ⟨T.setVm vm₁, locs, cells, slots⟩ (Value.ref b :: argsL).toArray q B ∧
      Steps p.tables e below (T.setTop g) ((B.U.setTop { g with stack := rest }).pushFrame (.throwing q))) := by
  obtain ⟨mk, methM, hnamed, hmethM, hstM, habM⟩ := Cond.instanceMethod_spec hinst
  obtain ⟨methM', cM, hmethM', -, -, -, -, -, -, hsigM⟩ := Cond.code_spec hnamed hcode
  cases hmethM.symm.trans hmethM'
  obtain ⟨c2, r2, m2, q1, q2, q3, q4, kP, hkP, hkPi⟩ := Cond.selects_spec hsel
  cases hcls.symm.trans q1
  cases (State.methodFound?_of_named hnamed hy).symm.trans q2
  cases hnamed.symm.trans q3
  have hselP : selectMethod e.platform s.vm cellB.cls mk = .method mk := by rw [Launch.admits_selectMethod X.admits]; exact q4
  obtain ⟨vm₁, X₁, hstep₁⟩ := X.invokevirtual hexec hown hlink hnamed hmethM hstM hkP hkPi hy (a := b) (cell := cellB) hcell
    (fun z h => by rw [h] at hobj; cases hobj) hselP hmethM habM hkP hkPi (g := g) hg (argsL := argsL) (rest := rest) (hlen _ hsigM) hstack hdg
  rcases hK m meth c ⟨T.setVm vm₁, locs, cells, slots⟩ { g with stack := rest } (.invokevirtual index) mk (Value.ref b :: argsL).toArray X₁ hg hsize hdg hW (X₁.named hnamed) (hpre vm₁ X₁.warmed) with ⟨v, B, X', hpost, hsteps⟩ | ⟨q, B, X', hpost, hsteps⟩
  · exact Or.inl ⟨v, vm₁, B, X₁.warmed, X', hpost, fun target h => hstep₁ _ fun acts => by rw [doInvoke_state]; exact hsteps.trans h⟩
  · exact Or.inr ⟨q, vm₁, B, X₁.warmed, X', hpost, hstep₁ _ fun acts => by rw [doInvoke_state]; exact hsteps⟩
theorem vx_callS (X : Stand p l e R s m args below meth c T locs cells slots) (hexec : p.tables.exec = Jvm.exec) {own : String} {index : Nat} {y : MethodName} {bytes : ByteArray} {maxL : Nat} {ret : Option FieldType}
    (hown : s.vm.findClass own = some m.cls) (hlink : (Cond.methodLink own index y).before args s = true) (hstat : (Cond.static y).before args s = true) (hinit : (Cond.initialized y.cls).before args s = true)
    (hcode : (Cond.code y bytes maxL ret).before args s = true) (hy : y.cls ≠ "java/lang/invoke/MethodHandle" ∧ y.cls ≠ "java/lang/invoke/VarHandle")
    {W9 : Nat} {Pre : Pt → Array Value → Prop} {Post : Pt → Array Value → Option Value → Pt → Prop} {PostX : Pt → Array Value → Addr → Pt → Prop} (hK : vx_Back l R p e below s args y 3 W9 Pre Post PostX)
    {g : JFrame} (hg : g.method = m) (hsize : g.locals.size = c.maxLocals) {argsL rest : List Value} (hlen : ∀ sig, parseMethodDescriptor y.desc = some sig → argsL.length = sig.parameters.length)
    (hstack : g.stack = argsL.reverse ++ rest) (hW : 2 * g.monitorRoom + (rest.map fun v => v.category).sum ≤ W9) (hdg : decode c.code g.pc = .ok (.invokestatic index, 3))
    (hpre : ∀ vm₁, s.WarmedH vm₁ → Pre ⟨T.setVm vm₁, locs, cells, slots⟩ argsL.toArray) :
    (∃ (v : Option Value) (vm₁ : Vm) (B : Pt), s.WarmedH vm₁ ∧ Stand p l e R s m args below meth c B.U B.locs B.cells B.slots ∧ Post ⟨T.setVm vm₁, locs, cells, slots⟩ argsL.toArray v B ∧
      ∀ target, Steps p.tables e below (B.U.setTop { g with pc := g.pc + 3, stack := v.toList ++ rest }) target → Steps p.tables e below (T.setTop g) target) ∨
    (∃ (q : Addr) (vm₁ : Vm) (B : Pt), s.WarmedH vm₁ ∧ Stand p l e R s m args below meth c B.U B.locs B.cells B.slots ∧ PostX ⟨T.setVm vm₁, locs, cells, slots⟩ argsL.toArray q B ∧
      Steps p.tables e below (T.setTop g) ((B.U.setTop { g with stack := rest }).pushFrame (.throwing q))) := by
  obtain ⟨mk, hnamed⟩ := Cond.code_named hcode
  obtain ⟨methM, cM, hmethM, -, -, -, -, -, -, hsigM⟩ := Cond.code_spec hnamed hcode
  have hstatic : methM.isStatic = true := Cond.static_spec hnamed hmethM hstat
  obtain ⟨kP, hkP, -⟩ := className_of_methodNamed hnamed
  have hinitP : kP.init = .initialized := Cond.initialized_spec (findClass_of_methodNamed hnamed) hkP hinit
  obtain ⟨vm₁, X₁, hstep₁⟩ := X.invokestatic hexec hown hlink hnamed hmethM hstatic hkP hinitP hy (g := g) hg (argsL := argsL) (rest := rest) (hlen _ hsigM) hstack hdg
  rcases hK m meth c ⟨T.setVm vm₁, locs, cells, slots⟩ { g with stack := rest } (.invokestatic index) mk argsL.toArray X₁ hg hsize hdg hW (X₁.named hnamed) (hpre vm₁ X₁.warmed) with ⟨v, B, X', hpost, hsteps⟩ | ⟨q, B, X', hpost, hsteps⟩
  · exact Or.inl ⟨v, vm₁, B, X₁.warmed, X', hpost, fun target h => hstep₁ _ fun acts => by rw [doInvoke_state]; exact hsteps.trans h⟩
  · exact Or.inr ⟨q, vm₁, B, X₁.warmed, X', hpost, hstep₁ _ fun acts => by rw [doInvoke_state]; exact hsteps⟩
end Calls
theorem vx_cls {s : State} {T : State} {vm₁ : Vm} {E : String} {k : ClassId} (hW : s.WarmedH vm₁) (h : (T.setVm vm₁).vm.findClass E = some k) : s.vm.findClass E = some k := by
  have h1 : vm₁.findClass E = some k := h
  rw [hW.alike.findClass] at h1
  exact h1
/-- the method's frame g, with q thrown over it -/
def vx_W (p : Program) (l : Launch) (e : Env) (R : Room) (s : State) (m : MethodId) (args : Array Value) (below : List Frame) (meth : Method) (c : Code) (H : Heap) (locs : List Loc) (cells slots : Nat) (Q : State → Prop) (g : JFrame) (q : Addr) : Prop :=
  ∀ T : State, T.heap = H → Stand p l e R s m args below meth c T locs cells slots → ∃ t, Steps p.tables e below ((T.setTop g).pushFrame (.throwing q)) t ∧ Q t
def vx_Run (p : Program) (l : Launch) (e : Env) (R : Room) (s : State) (m : MethodId) (args : Array Value) (below : List Frame) (meth : Method) (c : Code) (H : Heap) (locs : List Loc) (cells slots mc ms : Nat) (g : JFrame) (rest : List Value) (Qa : State → Outcome → State → Prop) (XC : String → State → State → Prop) (free : Addr → Prop) : Prop :=
  ∀ T : State, T.heap = H → Stand p l e R s m args below meth c T locs cells slots →
    (∃ (v : Option Value) (st₀ t T' : State) (L : List Loc), st₀.heap = H ∧ Stand p l e R s m args below meth c T' (locs ++ L) (cells + mc) (slots + ms) ∧ (∀ q ∈ L, free q.base) ∧ T'.heap = t.heap ∧ T'.vm = t.vm ∧ Qa st₀ (.returned v) t ∧
      Goes p e below T g T' { g with pc := g.pc + 3, stack := v.toList ++ rest }) ∨
    (∃ (q : Addr) (st₀ t T' : State) (L : List Loc) (E : String) (ce : Cell), st₀.heap = H ∧ Stand p l e R s m args below meth c T' (locs ++ L) (cells + mc) (slots + ms) ∧ (∀ z ∈ L, free z.base) ∧ T'.heap = t.heap ∧ T'.vm = t.vm ∧ XC E st₀ t ∧ t.heap[q]? = some ce ∧ ce.vm = .none ∧ s.vm.findClass E = some ce.cls ∧
      Steps p.tables e below (T.setTop g) ((T'.setTop { g with stack := rest }).pushFrame (.throwing q)))
def vx_X {S : Type} (px : S → Prop) (B : String → S → State → Prop) (A : Nat → Prop) : String → State → State → Prop := fun E st t => ∃ u : S, px u ∧ B E u t ∧ va_F A st t
section Runs
variable {p : Program} {l : Launch} {e : Env} {R : Room} {s : State} {m : MethodId} {args : Array Value} {below : List Frame} {meth : Method} {c : Code} {H : Heap} {locs : List Loc} {cells slots : Nat}
variable {y : MethodName} {bytes cc : ByteArray} {maxL nL mc ms n index : Nat} {ret : Option FieldType} {ws : List Cond} {rm : Room} {Pc : Array Value → State → Prop} {Qc : Array Value → State → Outcome → State → Prop} {XC : String → State → State → Prop} {free : Addr → Prop} {Ts : List Cond} {own C : String} {b : Addr} {As rest : List Value} {g : JFrame}
theorem vx_callBack (cb : CallB R s args own index y bytes maxL ret ws rm mc ms n) (hM : vx_Met l y ws rm Pc Qc XC mc ms free) (hbl : FrameBlind Pc) : vx_Back l R p e below s args y 3 8 (PreOf R mc ms Pc) (PostOf Qc mc ms free) (vx_Post XC mc ms free) := by
  obtain ⟨hrc, hrs, hfr, hlo, hws, hcw, -, hini, -⟩ := cb
  exact vx_back (bytes := bytes) (maxL := maxL) (ret := ret) hM hbl hrc hrs hfr hlo hws hcw (fun a' U hW => word_at hW (Or.inl (by first | rfl | simp [Cond.onTables, Cond.keeps, Cond.steady])) hini)
theorem vx_runV (S : CallFix p m c cc nL s args Ts own) (hM : vx_Met l y ws rm Pc Qc XC mc ms free) (cw : CallW R s args own C index y bytes maxL ret ws rm mc ms n) (hp : PreV s H C b Pc As)
    (hg : g.method = m) (hn : As.length = n) (hsize : g.locals.size = nL) (hstack : g.stack = As.reverse ++ .ref b :: rest) (hW : 2 * g.monitorRoom + (rest.map fun v => v.category).sum ≤ 8) (hdg : decode cc g.pc = .ok (.invokevirtual index, 3)) (hf : cells + mc ≤ R.cells ∧ slots + ms ≤ R.slots) :
    vx_Run p l e R s m args below meth c H locs cells slots mc ms g rest (Qc (Value.ref b :: As).toArray) XC free := by
  have hK : vx_Back l R p e below s args y 3 8 (PreOf R mc ms Pc) (PostOf Qc mc ms free) (vx_Post XC mc ms free) := vx_callBack cw.1 hM hp.1
  obtain ⟨⟨-, -, -, -, -, -, hcode, -, hy, hlen, hl⟩, hin, hse⟩ := cw
  obtain ⟨hx, hb, hml, ho, -⟩ := S
  obtain ⟨-, ⟨cellB, hcB, hoB, hclB⟩, hPc⟩ := hp
  intro T hT X
  rcases vx_callV X hx (C := C) (bytes := bytes) (maxL := maxL) (ret := ret) ho hl hin hse hcode hy hK (by rw [hT]; exact hcB) hoB hclB hg (hsize.trans hml.symm) (argsL := As) (rest := rest) (fun sig h => hn.trans (hlen sig h)) hstack hW (by rw [hb]; exact hdg)
    (fun vm₁ hW₁ => ⟨hf.1, hf.2, hPc (T.setVm vm₁) hT hW₁⟩) with ⟨v, vm₁, ⟨U', l2, c2, s2⟩, hW₁, X', ⟨g', mk, t, L, e1, e2, hq, h1, hL, h2, h3⟩, st⟩ | ⟨q, vm₁, ⟨U', l2, c2, s2⟩, hW₁, X', ⟨g', mk, t, L, E, ce, e1, e2, hq, hce, hcv, hcl, h1, hL, h2, h3⟩, st⟩
  · dsimp only [Pt.U, Pt.locs, Pt.cells, Pt.slots] at X' e1 e2 h1 h2 h3 st
    subst h1; subst h2; subst h3
    exact Or.inl ⟨v, (T.setVm vm₁).calling g' mk (Value.ref b :: As).toArray, t, U', L, hT, X', hL, e1, e2, hq, st⟩
  · dsimp only [Pt.U, Pt.locs, Pt.cells, Pt.slots] at X' e1 e2 h1 h2 h3 st hcl
    subst h1; subst h2; subst h3
    exact Or.inr ⟨q, (T.setVm vm₁).calling g' mk (Value.ref b :: As).toArray, t, U', L, E, ce, hT, X', hL, e1, e2, hq, hce, hcv, vx_cls hW₁ hcl, st⟩
theorem vx_runS (S : CallFix p m c cc nL s args Ts own) (hM : vx_Met l y ws rm Pc Qc XC mc ms free) (cw : CallB R s args own index y bytes maxL ret ws rm mc ms n ∧ (Cond.static y).before args s = true) (hp : PreS s H Pc As)
    (hg : g.method = m) (hn : As.length = n) (hsize : g.locals.size = nL) (hstack : g.stack = As.reverse ++ rest) (hW : 2 * g.monitorRoom + (rest.map fun v => v.category).sum ≤ 8) (hdg : decode cc g.pc = .ok (.invokestatic index, 3)) (hf : cells + mc ≤ R.cells ∧ slots + ms ≤ R.slots) :
    vx_Run p l e R s m args below meth c H locs cells slots mc ms g rest (Qc As.toArray) XC free := by
  have hK : vx_Back l R p e below s args y 3 8 (PreOf R mc ms Pc) (PostOf Qc mc ms free) (vx_Post XC mc ms free) := vx_callBack cw.1 hM hp.1
  obtain ⟨⟨-, -, -, -, -, -, hcode, hini, hy, hlen, hl⟩, hstt⟩ := cw
  obtain ⟨hx, hb, hml, ho, -⟩ := S
  intro T hT X
  rcases vx_callS X hx (bytes := bytes) (maxL := maxL) (ret := ret) ho hl hstt hini hcode hy hK hg (hsize.trans hml.symm) (argsL := As) (rest := rest) (fun sig h => hn.trans (hlen sig h)) hstack hW (by rw [hb]; exact hdg)
    (fun vm₁ hW₁ => ⟨hf.1, hf.2, hp.2 (T.setVm vm₁) hT hW₁⟩) with ⟨v, vm₁, ⟨U', l2, c2, s2⟩, hW₁, X', ⟨g', mk, t, L, e1, e2, hq, h1, hL, h2, h3⟩, st⟩ | ⟨q, vm₁, ⟨U', l2, c2, s2⟩, hW₁, X', ⟨g', mk, t, L, E, ce, e1, e2, hq, hce, hcv, hcl, h1, hL, h2, h3⟩, st⟩
  · dsimp only [Pt.U, Pt.locs, Pt.cells, Pt.slots] at X' e1 e2 h1 h2 h3 st
    subst h1; subst h2; subst h3
    exact Or.inl ⟨v, (T.setVm vm₁).calling g' mk As.toArray, t, U', L, hT, X', hL, e1, e2, hq, st⟩
  · dsimp only [Pt.U, Pt.locs, Pt.cells, Pt.slots] at X' e1 e2 h1 h2 h3 st hcl
    subst h1; subst h2; subst h3
    exact Or.inr ⟨q, (T.setVm vm₁).calling g' mk As.toArray, t, U', L, E, ce, hT, X', hL, e1, e2, hq, hce, hcv, vx_cls hW₁ hcl, st⟩
end Runs
section Rows
variable {p : Program} {l : Launch} {e : Env} {R : Room} {s : State} {m : MethodId} {args : Array Value} {below : List Frame} {meth : Method} {c : Code} {H : Heap} {locs : List Loc} {cells slots : Nat} {Q : State → Prop}
variable {mc ms : Nat} {free : Addr → Prop} {A0 A1 : Nat → Prop} {H0 : Heap} {a : Array Value} {pc : Nat} {ls : Array Slot} {st0 rest : List Value}
theorem vx_keep {st₀ t T' : State} {L : List Loc} (h0 : st₀.heap = H) (e1 : T'.heap = t.heap) (hS : va_S A0 H0 H locs) (hA : ∀ q, q < H.size → A1 q → A0 q) (hf : ∀ q, free q → A0 q) (hL : ∀ q ∈ L, free q.base) (hF : va_F A1 st₀ t) :
    H.size ≤ T'.heap.size ∧ (∀ q : Nat, q < H.size → ¬ A1 q → T'.heap[q]? = H[q]?) ∧ va_S A0 H0 T'.heap (locs ++ L) := by
  obtain ⟨hz, hk⟩ := hF
  rw [h0] at hz hk
  exact ⟨by rw [e1]; exact hz, fun q h1 h2 => by rw [e1]; exact hk q h1 h2,
    ⟨Nat.le_trans hS.1 (by rw [e1]; exact hz), fun q h1 h2 => by rw [e1, hk q (Nat.lt_of_lt_of_le h1 hS.1) (fun z => h2 (hA q (Nat.lt_of_lt_of_le h1 hS.1) z))]; exact hS.2.1 q h1 h2, fun q hq => by
      rcases List.mem_append.mp hq with h | h
      · exact hS.2.2 q h
      · exact hf _ (hL q h)⟩⟩
theorem vx_calli {S SX : Type} {post : Int32 → S → Prop} {px : SX → Prop} {B : S → State → Prop} {BX : String → SX → State → Prop} {AX : Nat → Prop} (hr : vx_Run p l e R s m args below meth c H locs cells slots mc ms (F0 m pc ls st0) rest (va_Qi post B A1 a) (vx_X px BX AX) free) (hS : va_S A0 H0 H locs) (hA : ∀ q, q < H.size → A1 q → A0 q) (hf : ∀ q, free q → A0 q) (hAX : ∀ q, q < H.size → AX q → A0 q)
    (kx : ∀ (E : String) (ce : Cell) (q9 : Addr) (u : SX) (t : State) (H1 : Heap) (locs1 : List Loc), t.heap = H1 → s.vm.Alike t.vm → px u → BX E u t → H.size ≤ H1.size → (∀ q : Nat, q < H.size → ¬ AX q → H1[q]? = H[q]?) → va_S A0 H0 H1 locs1 → H1[q9]? = some ce → ce.vm = .none → s.vm.findClass E = some ce.cls → vx_W p l e R s m args below meth c H1 locs1 (cells + mc) (slots + ms) Q (F0 m pc ls rest) q9)
    (kk : ∀ (r : Int32) (u : S) (t : State) (H1 : Heap) (locs1 : List Loc), t.heap = H1 → s.vm.Alike t.vm → post r u → B u t → H.size ≤ H1.size → (∀ q : Nat, q < H.size → ¬ A1 q → H1[q]? = H[q]?) → va_S A0 H0 H1 locs1 → W p l e R s m args below meth c H1 locs1 (cells + mc) (slots + ms) Q (F0 m (pc + 3) ls (.int r :: rest))) : W p l e R s m args below meth c H locs cells slots Q (F0 m pc ls st0) := by
  intro T hT X
  rcases hr T hT X with ⟨v, st₀, t, T', L, h0, X', hL, e1, e2, ⟨⟨r, u, hv, hp, hb⟩, hF⟩, st⟩ | ⟨q, st₀, t, T', L, E, ce, h0, X', hL, e1, e2, ⟨u, hp, hb, hF⟩, hce, hcv, hcl, st⟩
  · cases hv
    obtain ⟨k1, k2, k3⟩ := vx_keep h0 e1 hS hA hf hL hF
    obtain ⟨t2, a1, b1⟩ := kk r u t T'.heap (locs ++ L) e1.symm (by rw [← e2]; exact X'.warmed.alike) hp hb k1 k2 k3 T' rfl X'
    exact ⟨t2, st t2 a1, b1⟩
  · obtain ⟨k1, k2, k3⟩ := vx_keep h0 e1 hS hAX hf hL hF
    obtain ⟨t2, a1, b1⟩ := kx E ce q u t T'.heap (locs ++ L) e1.symm (by rw [← e2]; exact X'.warmed.alike) hp hb k1 k2 k3 (by rw [e1]; exact hce) hcv hcl T' rfl X'
    exact ⟨t2, st.trans a1, b1⟩
theorem vx_calll {S SX : Type} {post : Int64 → S → Prop} {px : SX → Prop} {B : S → State → Prop} {BX : String → SX → State → Prop} {AX : Nat → Prop} (hr : vx_Run p l e R s m args below meth c H locs cells slots mc ms (F0 m pc ls st0) rest (va_Ql post B A1 a) (vx_X px BX AX) free) (hS : va_S A0 H0 H locs) (hA : ∀ q, q < H.size → A1 q → A0 q) (hf : ∀ q, free q → A0 q) (hAX : ∀ q, q < H.size → AX q → A0 q)
    (kx : ∀ (E : String) (ce : Cell) (q9 : Addr) (u : SX) (t : State) (H1 : Heap) (locs1 : List Loc), t.heap = H1 → s.vm.Alike t.vm → px u → BX E u t → H.size ≤ H1.size → (∀ q : Nat, q < H.size → ¬ AX q → H1[q]? = H[q]?) → va_S A0 H0 H1 locs1 → H1[q9]? = some ce → ce.vm = .none → s.vm.findClass E = some ce.cls → vx_W p l e R s m args below meth c H1 locs1 (cells + mc) (slots + ms) Q (F0 m pc ls rest) q9)
    (kk : ∀ (r : Int64) (u : S) (t : State) (H1 : Heap) (locs1 : List Loc), t.heap = H1 → s.vm.Alike t.vm → post r u → B u t → H.size ≤ H1.size → (∀ q : Nat, q < H.size → ¬ A1 q → H1[q]? = H[q]?) → va_S A0 H0 H1 locs1 → W p l e R s m args below meth c H1 locs1 (cells + mc) (slots + ms) Q (F0 m (pc + 3) ls (.long r :: rest))) : W p l e R s m args below meth c H locs cells slots Q (F0 m pc ls st0) := by
  intro T hT X
  rcases hr T hT X with ⟨v, st₀, t, T', L, h0, X', hL, e1, e2, ⟨⟨r, u, hv, hp, hb⟩, hF⟩, st⟩ | ⟨q, st₀, t, T', L, E, ce, h0, X', hL, e1, e2, ⟨u, hp, hb, hF⟩, hce, hcv, hcl, st⟩
  · cases hv
    obtain ⟨k1, k2, k3⟩ := vx_keep h0 e1 hS hA hf hL hF
    obtain ⟨t2, a1, b1⟩ := kk r u t T'.heap (locs ++ L) e1.symm (by rw [← e2]; exact X'.warmed.alike) hp hb k1 k2 k3 T' rfl X'
    exact ⟨t2, st t2 a1, b1⟩
  · obtain ⟨k1, k2, k3⟩ := vx_keep h0 e1 hS hAX hf hL hF
    obtain ⟨t2, a1, b1⟩ := kx E ce q u t T'.heap (locs ++ L) e1.symm (by rw [← e2]; exact X'.warmed.alike) hp hb k1 k2 k3 (by rw [e1]; exact hce) hcv hcl T' rfl X'
    exact ⟨t2, st.trans a1, b1⟩
theorem vx_callf {S SX : Type} {post : UInt32 → S → Prop} {px : SX → Prop} {B : S → State → Prop} {BX : String → SX → State → Prop} {AX : Nat → Prop} (hr : vx_Run p l e R s m args below meth c H locs cells slots mc ms (F0 m pc ls st0) rest (va_Qf post B A1 a) (vx_X px BX AX) free) (hS : va_S A0 H0 H locs) (hA : ∀ q, q < H.size → A1 q → A0 q) (hf : ∀ q, free q → A0 q) (hAX : ∀ q, q < H.size → AX q → A0 q)
    (kx : ∀ (E : String) (ce : Cell) (q9 : Addr) (u : SX) (t : State) (H1 : Heap) (locs1 : List Loc), t.heap = H1 → s.vm.Alike t.vm → px u → BX E u t → H.size ≤ H1.size → (∀ q : Nat, q < H.size → ¬ AX q → H1[q]? = H[q]?) → va_S A0 H0 H1 locs1 → H1[q9]? = some ce → ce.vm = .none → s.vm.findClass E = some ce.cls → vx_W p l e R s m args below meth c H1 locs1 (cells + mc) (slots + ms) Q (F0 m pc ls rest) q9)
    (kk : ∀ (r : UInt32) (u : S) (t : State) (H1 : Heap) (locs1 : List Loc), t.heap = H1 → s.vm.Alike t.vm → post r u → B u t → H.size ≤ H1.size → (∀ q : Nat, q < H.size → ¬ A1 q → H1[q]? = H[q]?) → va_S A0 H0 H1 locs1 → W p l e R s m args below meth c H1 locs1 (cells + mc) (slots + ms) Q (F0 m (pc + 3) ls (.float r :: rest))) : W p l e R s m args below meth c H locs cells slots Q (F0 m pc ls st0) := by
  intro T hT X
  rcases hr T hT X with ⟨v, st₀, t, T', L, h0, X', hL, e1, e2, ⟨⟨r, u, hv, hp, hb⟩, hF⟩, st⟩ | ⟨q, st₀, t, T', L, E, ce, h0, X', hL, e1, e2, ⟨u, hp, hb, hF⟩, hce, hcv, hcl, st⟩
  · cases hv
    obtain ⟨k1, k2, k3⟩ := vx_keep h0 e1 hS hA hf hL hF
    obtain ⟨t2, a1, b1⟩ := kk r u t T'.heap (locs ++ L) e1.symm (by rw [← e2]; exact X'.warmed.alike) hp hb k1 k2 k3 T' rfl X'
    exact ⟨t2, st t2 a1, b1⟩
  · obtain ⟨k1, k2, k3⟩ := vx_keep h0 e1 hS hAX hf hL hF
    obtain ⟨t2, a1, b1⟩ := kx E ce q u t T'.heap (locs ++ L) e1.symm (by rw [← e2]; exact X'.warmed.alike) hp hb k1 k2 k3 (by rw [e1]; exact hce) hcv hcl T' rfl X'
    exact ⟨t2, st.trans a1, b1⟩
theorem vx_calld {S SX : Type} {post : UInt64 → S → Prop} {px : SX → Prop} {B : S → State → Prop} {BX : String → SX → State → Prop} {AX : Nat → Prop} (hr : vx_Run p l e R s m args below meth c H locs cells slots mc ms (F0 m pc ls st0) rest (va_Qd post B A1 a) (vx_X px BX AX) free) (hS : va_S A0 H0 H locs) (hA : ∀ q, q < H.size → A1 q → A0 q) (hf : ∀ q, free q → A0 q) (hAX : ∀ q, q < H.size → AX q → A0 q)
    (kx : ∀ (E : String) (ce : Cell) (q9 : Addr) (u : SX) (t : State) (H1 : Heap) (locs1 : List Loc), t.heap = H1 → s.vm.Alike t.vm → px u → BX E u t → H.size ≤ H1.size → (∀ q : Nat, q < H.size → ¬ AX q → H1[q]? = H[q]?) → va_S A0 H0 H1 locs1 → H1[q9]? = some ce → ce.vm = .none → s.vm.findClass E = some ce.cls → vx_W p l e R s m args below meth c H1 locs1 (cells + mc) (slots + ms) Q (F0 m pc ls rest) q9)
    (kk : ∀ (r : UInt64) (u : S) (t : State) (H1 : Heap) (locs1 : List Loc), t.heap = H1 → s.vm.Alike t.vm → post r u → B u t → H.size ≤ H1.size → (∀ q : Nat, q < H.size → ¬ A1 q → H1[q]? = H[q]?) → va_S A0 H0 H1 locs1 → W p l e R s m args below meth c H1 locs1 (cells + mc) (slots + ms) Q (F0 m (pc + 3) ls (.double r :: rest))) : W p l e R s m args below meth c H locs cells slots Q (F0 m pc ls st0) := by
  intro T hT X
  rcases hr T hT X with ⟨v, st₀, t, T', L, h0, X', hL, e1, e2, ⟨⟨r, u, hv, hp, hb⟩, hF⟩, st⟩ | ⟨q, st₀, t, T', L, E, ce, h0, X', hL, e1, e2, ⟨u, hp, hb, hF⟩, hce, hcv, hcl, st⟩
  · cases hv
    obtain ⟨k1, k2, k3⟩ := vx_keep h0 e1 hS hA hf hL hF
    obtain ⟨t2, a1, b1⟩ := kk r u t T'.heap (locs ++ L) e1.symm (by rw [← e2]; exact X'.warmed.alike) hp hb k1 k2 k3 T' rfl X'
    exact ⟨t2, st t2 a1, b1⟩
  · obtain ⟨k1, k2, k3⟩ := vx_keep h0 e1 hS hAX hf hL hF
    obtain ⟨t2, a1, b1⟩ := kx E ce q u t T'.heap (locs ++ L) e1.symm (by rw [← e2]; exact X'.warmed.alike) hp hb k1 k2 k3 (by rw [e1]; exact hce) hcv hcl T' rfl X'
    exact ⟨t2, st.trans a1, b1⟩
theorem vx_callv {S SX : Type} {post : S → Prop} {px : SX → Prop} {B : S → State → Prop} {BX : String → SX → State → Prop} {AX : Nat → Prop} (hr : vx_Run p l e R s m args below meth c H locs cells slots mc ms (F0 m pc ls st0) rest (va_Qv post B A1 a) (vx_X px BX AX) free) (hS : va_S A0 H0 H locs) (hA : ∀ q, q < H.size → A1 q → A0 q) (hf : ∀ q, free q → A0 q) (hAX : ∀ q, q < H.size → AX q → A0 q)
    (kx : ∀ (E : String) (ce : Cell) (q9 : Addr) (u : SX) (t : State) (H1 : Heap) (locs1 : List Loc), t.heap = H1 → s.vm.Alike t.vm → px u → BX E u t → H.size ≤ H1.size → (∀ q : Nat, q < H.size → ¬ AX q → H1[q]? = H[q]?) → va_S A0 H0 H1 locs1 → H1[q9]? = some ce → ce.vm = .none → s.vm.findClass E = some ce.cls → vx_W p l e R s m args below meth c H1 locs1 (cells + mc) (slots + ms) Q (F0 m pc ls rest) q9)
    (kk : ∀ (u : S) (t : State) (H1 : Heap) (locs1 : List Loc), t.heap = H1 → s.vm.Alike t.vm → post u → B u t → H.size ≤ H1.size → (∀ q : Nat, q < H.size → ¬ A1 q → H1[q]? = H[q]?) → va_S A0 H0 H1 locs1 → W p l e R s m args below meth c H1 locs1 (cells + mc) (slots + ms) Q (F0 m (pc + 3) ls (rest))) : W p l e R s m args below meth c H locs cells slots Q (F0 m pc ls st0) := by
  intro T hT X
  rcases hr T hT X with ⟨v, st₀, t, T', L, h0, X', hL, e1, e2, ⟨⟨u, hv, hp, hb⟩, hF⟩, st⟩ | ⟨q, st₀, t, T', L, E, ce, h0, X', hL, e1, e2, ⟨u, hp, hb, hF⟩, hce, hcv, hcl, st⟩
  · cases hv
    obtain ⟨k1, k2, k3⟩ := vx_keep h0 e1 hS hA hf hL hF
    obtain ⟨t2, a1, b1⟩ := kk u t T'.heap (locs ++ L) e1.symm (by rw [← e2]; exact X'.warmed.alike) hp hb k1 k2 k3 T' rfl X'
    exact ⟨t2, st t2 a1, b1⟩
  · obtain ⟨k1, k2, k3⟩ := vx_keep h0 e1 hS hAX hf hL hF
    obtain ⟨t2, a1, b1⟩ := kx E ce q u t T'.heap (locs ++ L) e1.symm (by rw [← e2]; exact X'.warmed.alike) hp hb k1 k2 k3 (by rw [e1]; exact hce) hcv hcl T' rfl X'
    exact ⟨t2, st.trans a1, b1⟩
/-- caught by the row x of this method's table; the rows ahead don't take it -/
theorem vx_catch {own name : String} {E : String} {ce : Cell} {q : Addr} (hown : s.vm.findClass own = some m.cls) (pre : List ExceptionTableEntry) (x : ExceptionTableEntry) (suf : List ExceptionTableEntry) (hsplit : c.exceptionTable.toList = pre ++ x :: suf)
    (hpass : ∀ z ∈ pre, covers z pc = false ∨ (z.catchType ≠ 0 ∧ ∃ nm : String, (Cond.classLink own z.catchType nm).before args s = true ∧ va_Nc E nm s)) (hx : covers x pc = true) (h0 : x.catchType ≠ 0)
    (hlink : (Cond.classLink own x.catchType name).before args s = true) (hcast : (Cond.castable E name).before args s = true) (hcell : H[q]? = some ce) (hv : ce.vm = .none) (hcl : s.vm.findClass E = some ce.cls)
    (kk : W p l e R s m args below meth c H locs cells slots Q (F0 m x.handlerPc ls [.ref q])) : vx_W p l e R s m args below meth c H locs cells slots Q (F0 m pc ls rest) q := by
  intro T hT X
  have hpl : e.platform.magicAccessors = ({} : Platform).magicAccessors := by rw [X.admits.platform]
  obtain ⟨c3, c4, hc3, hc4, hasg⟩ := Cond.castable_spec hcast
  cases Option.some.inj (hc3.symm.trans hcl)
  obtain ⟨c5, hc5, hcl5⟩ := Cond.classLink_spec hown hlink e.platform hpl
  cases Option.some.inj (hc4.symm.trans hc5)
  obtain ⟨vm', X', st⟩ := X.thenCaughtThrough q (g := F0 m pc ls rest) rfl (Steps.refl _) (by rw [hT]; exact hcell) (by rw [hv]; rfl) (by obtain ⟨k9, h9, -⟩ := Vm.findClass_spec hcl; exact ⟨k9, h9⟩) pre x suf hsplit
    (fun z hz => by
      rcases hpass z hz with h | ⟨hz0, nm, hl1, hn1⟩
      · exact Or.inl h
      · obtain ⟨c6, hc6, hcl6⟩ := Cond.classLink_spec hown hl1 e.platform hpl
        obtain ⟨a8, b8, h1, h2, h3⟩ := hn1
        cases Option.some.inj (h1.symm.trans hcl)
        cases Option.some.inj (h2.symm.trans hc6)
        exact Or.inr ⟨hz0, _, hcl6, h3⟩) hx (Or.inr ⟨h0, c4, hcl5, hasg⟩)
  obtain ⟨t, a1, b1⟩ := kk (T.setVm vm') hT X'
  exact ⟨t, st.trans a1, b1⟩
end Rows
section Ends
variable {p : Program} {l : Launch} {e : Env} {R : Room} {s : State} {m : MethodId} {args : Array Value} {below : List Frame} {meth : Method} {c : Code} {H : Heap} {locs : List Loc} {cells slots : Nat} {Q : State → Prop}
variable {mc ms : Nat} {free : Addr → Prop} {A0 A1 : Nat → Prop} {H0 : Heap} {a : Array Value} {ls : Array Slot} {st0 rest : List Value}
variable {Qc : Array Value → State → Outcome → State → Prop} {XC : String → State → State → Prop}
/-- what a body that may throw owes at its end -/
def vx_MQ (below : List Frame) (Qc : Array Value → State → Outcome → State → Prop) (XC : String → State → State → Prop) (a : Array Value) (s : State) (mc ms : Nat) (free : Addr → Prop) : State → Prop := fun t =>
  ∃ o, t.status = .running ∧ Ended t below o ∧ vx_Q Qc XC mc ms free a s o t
theorem vx_ret {g : JFrame} {mc ms : Nat} (k : W p l e R s m args below meth c H locs cells slots (MQ below Qc args s mc ms free) g) : W p l e R s m args below meth c H locs cells slots (vx_MQ below Qc XC args s mc ms free) g := by
  intro T hT X
  obtain ⟨t, a1, o, b1, b2, b3, b4⟩ := k T hT X
  exact ⟨t, a1, o, b1, b2, Or.inl ⟨b3, b4⟩⟩
/-- not caught here: it goes on to the caller -/
theorem vx_widen {g : JFrame} {q : Addr} {k n : Nat} (h1 : cells ≤ k) (h2 : slots ≤ n) (kk : vx_W p l e R s m args below meth c H locs k n Q g q) : vx_W p l e R s m args below meth c H locs cells slots Q g q := fun T hT X => kk T hT (stand_widen X h1 h2)
theorem vx_out {pc : Nat} {E : String} {ce : Cell} {q : Addr} {mc ms : Nat} (hout : ∀ x ∈ c.exceptionTable.toList, covers x pc = false) (hlocks : meth.locks = false) (hcell : H[q]? = some ce) (hv : ce.vm = .none) (hcl : s.vm.findClass E = some ce.cls)
    (hx : ∀ t : State, t.heap = H → s.vm.Alike t.vm → XC E s t) (hf : ∀ z ∈ locs, free z.base) (hc : cells ≤ mc) (hs : slots ≤ ms) :
    vx_W p l e R s m args below meth c H locs cells slots (vx_MQ below Qc XC args s mc ms free) (F0 m pc ls rest) q := by
  intro T hT X
  obtain ⟨st1, hrun, hend, hW, hsm⟩ := X.leaveThrown q (g := F0 m pc ls rest) rfl rfl rfl hout hlocks
  have hcell9 : (T.setFrames (.throwing q :: below)).heap[q]? = some ce := by
    show T.heap[q]? = some ce
    rw [hT]; exact hcell
  exact ⟨_, st1, .threw q, hrun, hend, Or.inr ⟨q, rfl, E, ce, locs, hx _ hT hW.alike, hcell9, hv, hcl, hW, hsm.mono hc hs, hf⟩⟩
theorem vx_frame {U : State} {k n : Nat} (h : s.sameButNew ({ U with vm := s.vm } : State) locs k n) : s.heap.size ≤ U.heap.size ∧ ∀ q : Nat, q < s.heap.size → (∀ z ∈ locs, z.base ≠ q) → U.heap[q]? = s.heap[q]? := by
  obtain ⟨-, h2, -, -, -, h6⟩ := h
  refine ⟨h2, fun q hq hz => ?_⟩
  obtain ⟨c9, e1, e2, e3, e4⟩ := h6 q _ (Array.getElem?_eq_getElem hq)
  have hs : c9.slots = (s.heap[q]).slots := Array.ext_getElem? fun i => e4 i fun hm => hz _ hm rfl
  have h9 : c9 = s.heap[q] := by
    rw [hs] at e2
    exact e2
  have e5 : U.heap[q]? = some c9 := e1
  rw [e5, h9, Array.getElem?_eq_getElem hq]
/-- the words of a throw but the four that speak of the heap -/
def vx_no (w : Cond) : Bool := decide (w ≠ .isRef (.static Bundle.tN "UNASSIGNED_STACK" Bundle.steD)) && decide (w ≠ .isRef (.static Bundle.tN "SUPPRESSED_SENTINEL" Bundle.listD)) && decide (w ≠ .laysStatic Bundle.tN "UNASSIGNED_STACK" Bundle.steD) && decide (w ≠ .laysStatic Bundle.tN "SUPPRESSED_SENTINEL" Bundle.listD)
def vx_at0 (own : String) (ic : Nat) (X : String) (names : List String) : List Cond := (Bundle.ownAtoms0 own ic X names).filter vx_no
def vx_atS (own : String) (ic : Nat) (X : String) (names : List String) : List Cond := (Bundle.ownAtoms own ic X names).filter vx_no
/-- a word that the tables alone decide, or a good one -/
def vx_ot (w : Cond) : Bool := w.onTables || goodWord w
theorem vx_ot_at {args a' : Array Value} {s U : State} {w : Cond} (hW : s.WarmedH U.vm) (hvm : s.vm = U.vm) (hg : vx_ot w = true) (h : w.before args s = true) : w.before a' U = true := by
  simp only [vx_ot, Bool.or_eq_true] at hg
  rcases hg with hg | hg
  · exact va_tabs hg hvm h
  · exact word_at hW (good_of_word hg) h
/-- a list's words: the good ones out of the method's own list, the others by premises of their own -/
theorem vx_hat {args : Array Value} {s : State} {L B : List Cond} (h1 : ∀ w ∈ L.filter goodWord, w.before args s = true) (h2 : ∀ w ∈ L.filter (fun w => !goodWord w), w ∈ B) (h3 : ∀ w ∈ B, w.before args s = true) : ∀ w ∈ L, w.before args s = true := by
  intro w hw
  by_cases g : goodWord w = true
  · exact h1 w (List.mem_filter.mpr ⟨hw, g⟩)
  · refine h3 w (h2 w (List.mem_filter.mpr ⟨hw, ?_⟩))
    show (!goodWord w) = true
    cases hgw : goodWord w
    · rfl
    · exact absurd hgw g
theorem vx_c {args : Array Value} {s : State} {w : Cond} {B : List Cond} (h : w.before args s = true) (t : ∀ w ∈ B, w.before args s = true) : ∀ w' ∈ w :: B, w'.before args s = true := fun w' h' => (List.mem_cons.mp h').elim (fun e => by rw [e]; exact h) (t w')
theorem vx_n {args : Array Value} {s : State} : ∀ w ∈ ([] : List Cond), w.before args s = true := fun _ h => nomatch h
theorem vx_own {args : Array Value} {s : State} {L : List Cond} (h1 : ∀ w ∈ L.filter vx_no, w.before args s = true)
    (hU : (Cond.isRef (.static Bundle.tN "UNASSIGNED_STACK" Bundle.steD)).before args s = true) (hN : (Cond.isRef (.static Bundle.tN "SUPPRESSED_SENTINEL" Bundle.listD)).before args s = true)
    (lU : (Cond.laysStatic Bundle.tN "UNASSIGNED_STACK" Bundle.steD).before args s = true) (lN : (Cond.laysStatic Bundle.tN "SUPPRESSED_SENTINEL" Bundle.listD).before args s = true) : ∀ w ∈ L, w.before args s = true := by
  intro w hw
  by_cases e1 : w = .isRef (.static Bundle.tN "UNASSIGNED_STACK" Bundle.steD)
  · rw [e1]; exact hU
  · by_cases e2 : w = .isRef (.static Bundle.tN "SUPPRESSED_SENTINEL" Bundle.listD)
    · rw [e2]; exact hN
    · by_cases e3 : w = .laysStatic Bundle.tN "UNASSIGNED_STACK" Bundle.steD
      · rw [e3]; exact lU
      · by_cases e4 : w = .laysStatic Bundle.tN "SUPPRESSED_SENTINEL" Bundle.listD
        · rw [e4]; exact lN
        · exact h1 w (List.mem_filter.mpr ⟨hw, by unfold vx_no; rw [decide_eq_true e1, decide_eq_true e2, decide_eq_true e3, decide_eq_true e4]; rfl⟩)
/-- where a static field lies, its class's statics cell in H -/
def vx_L (C n d : String) (A : Nat → Prop) (U : State) (H : Heap) : Prop := ∃ (c : ClassId) (k : Class) (i : Nat) (f : Field) (a : Nat) (cell : Cell), U.vm.findClass C = some c ∧ U.fieldFound? C n d = some (c, k, i, f) ∧ f.isStatic = true ∧ k.statics = some a ∧ H[a]? = some cell ∧ cell.vm.isStatics = true ∧ cell.cls = c ∧ f.slot < cell.slots.size ∧ k.staticTypes[f.slot]? = some f.type ∧ ¬ A a
theorem vx_L.moved {C n d : String} {A : Nat → Prop} {u U : State} {H : Heap} (hvm : u.vm.Alike U.vm) (h : vx_L C n d A u H) : vx_L C n d A U H := by
  obtain ⟨c, k, i, f, a, cell, h1, h2, h3, h4, h5, h6, h7, h8, h9, h10⟩ := h
  obtain ⟨k', hi', he⟩ := State.fieldFound?_setVm hvm h2
  exact ⟨c, k', i, f, a, cell, by rw [hvm.findClass]; exact h1, hi', h3, by rw [he]; exact h4, h5, h6, h7, h8, by rw [he]; exact h9, h10⟩
theorem vx_L.kept {C n d : String} {A : Nat → Prop} {U : State} {H H1 : Heap} (h : vx_L C n d A U H) (hq : ∀ a : Nat, a < H.size → ¬ A a → H1[a]? = H[a]?) : vx_L C n d A U H1 := by
  obtain ⟨c, k, i, f, a, cell, h1, h2, h3, h4, h5, h6, h7, h8, h9, h10⟩ := h
  exact ⟨c, k, i, f, a, cell, h1, h2, h3, h4, by rw [hq a (Array.getElem?_eq_some_iff.mp h5).1 h10]; exact h5, h6, h7, h8, h9, h10⟩
theorem vx_L.narrow {C n d : String} {A B : Nat → Prop} {U : State} {H : Heap} (h : vx_L C n d A U H) (hAB : ∀ q, B q → A q) : vx_L C n d B U H := by
  obtain ⟨c, k, i, f, a, cell, h1, h2, h3, h4, h5, h6, h7, h8, h9, h10⟩ := h
  exact ⟨c, k, i, f, a, cell, h1, h2, h3, h4, h5, h6, h7, h8, h9, fun z => h10 (hAB _ z)⟩
theorem vx_L.word {C n d : String} {A : Nat → Prop} {s : State} {args : Array Value} (h : vx_L C n d A s s.heap) : (Cond.laysStatic C n d).before args s = true := by
  obtain ⟨c, k, i, f, a, cell, h1, h2, h3, h4, h5, h6, h7, h8, h9, -⟩ := h
  show (Cond.laysStatic C n d).holds args s none s [] = true
  exact Cond.laysStatic_of h1 h2 h3 h4 h5 h6 h7 h8 h9
/-- .. and what it holds: null or some reference -/
def vx_Zq (C n d : String) (A : Nat → Prop) (U : State) (H : Heap) : Prop := va_Zq C n d A U H ∧ vx_L C n d A U H
theorem vx_Zq.moved {C n d : String} {A : Nat → Prop} {u U : State} {H : Heap} (hvm : u.vm.Alike U.vm) (h : vx_Zq C n d A u H) : vx_Zq C n d A U H := ⟨va_Zq.moved hvm h.1, vx_L.moved hvm h.2⟩
theorem vx_Zq.kept {C n d : String} {A : Nat → Prop} {U : State} {H H1 : Heap} (h : vx_Zq C n d A U H) (hq : ∀ a : Nat, a < H.size → ¬ A a → H1[a]? = H[a]?) : vx_Zq C n d A U H1 := ⟨va_Zq.kept h.1 hq, vx_L.kept h.2 hq⟩
theorem vx_Zq.narrow {C n d : String} {A B : Nat → Prop} {U : State} {H : Heap} (h : vx_Zq C n d A U H) (hAB : ∀ q, B q → A q) : vx_Zq C n d B U H := ⟨va_Zq.narrow h.1 hAB, vx_L.narrow h.2 hAB⟩
theorem vx_Zqof {args : Array Value} {s : State} {C n d : String} {A : Nat → Prop} (hl : (Cond.laysStatic C n d).before args s = true) (hini : (Cond.initialized C).before args s = true) (h : (Cond.isRef (.static C n d)).before args s = true) (hA : ∀ a : Nat, a < s.heap.size → ¬ A a) : vx_Zq C n d A s s.heap := by
  refine ⟨va_Zqof hl hini h hA, ?_⟩
  obtain ⟨c, k, i, f, a, cell, h1, h2, h3, h4, h5, h6, h7, h8, h9⟩ := Cond.laysStatic_spec hl
  exact ⟨c, k, i, f, a, cell, h1, h2, h3, h4, h5, h6, h7, h8, h9, hA a (Array.getElem?_eq_some_iff.mp h5).1⟩
theorem vx_isRef {C n d : String} {v : Value} {A : Nat → Prop} {s : State} {args : Array Value} (h : va_Z C n d v A s s.heap) (hv : v.isRef = true) : (Cond.isRef (.static C n d)).before args s = true := by
  obtain ⟨cf, kf, fi, f, a, cell, h1, h2, h3, h4, h5, h6, h7, -⟩ := h
  have he : (Term.static C n d).eval args s none [] s = some v := by
    simp [Term.eval, State.fieldNamed?, h1, h2, h4, h5, h6, h7]
  simp only [Cond.before, Cond.holds, Cond.value, he]
  cases v <;> simp_all [Value.isRef]
theorem vx_isRefq {C n d : String} {A : Nat → Prop} {s : State} {args : Array Value} (h : va_Zq C n d A s s.heap) : (Cond.isRef (.static C n d)).before args s = true := by
  rcases h with h | ⟨t, h⟩
  · exact vx_isRef h rfl
  · exact vx_isRef h rfl
/-- the same frame, seen from here: as if the method were called anew in this heap -/
theorem vx_rebase {T : State} (X : Stand p l e R s m args below meth c T locs cells slots) {R' : Room} (hf : R'.frames ≤ R.frames) (hl : R'.locals ≤ R.locals) (hc : cells + R'.cells ≤ R.cells) (hs : slots + R'.slots ≤ R.slots) :
    Stand p l e R' ((T.setVm s.vm).setFrames (.invoking m args :: below)) m args below meth c T [] 0 0 := by
  have htop : (T.setVm s.vm).topJava?.isSome := X.here.top
  have hF : ((T.setVm s.vm).setFrames (.invoking m args :: below)).frames = .invoking m args :: below := State.frames_setFrames _ (State.cur_lt_of_top htop)
  obtain ⟨g₀, hg0⟩ := Option.isSome_iff_exists.mp htop
  obtain ⟨r, hr⟩ := State.topJava?_eq_some.mp hg0
  have hl9 : e.platform.stackLimits (T.setVm s.vm).me = e.platform.stackLimits s.me := X.limits
  have hb9 : (T.setVm s.vm).me.stackBytes = s.me.stackBytes := X.bytes
  refine ⟨X.admits, X.cas, X.clock, hF, ?_, X.hears, X.method, X.code, X.here, X.tail, X.warmed, ?_, ?_, ?_⟩
  · have h := X.room
    have hU : ((T.setVm s.vm).setFrames (.invoking m args :: below)).localsInUse = s.localsInUse := by
      rw [State.localsInUse_invoking hF (meth := meth) (c := c) X.method X.code, State.localsInUse_invoking X.frames X.method X.code]
    simp only [State.hasRoom, Bool.and_eq_true, decide_eq_true_eq] at h ⊢
    obtain ⟨⟨⟨⟨h1, h2, h3, h4, h5, h6⟩, h7⟩, h8⟩, h9⟩ := h
    rw [X.frames, List.length_cons] at h2 h3
    have q1 := X.heapSize
    have q2 := X.used
    simp only [hF, hU, List.length_cons, State.stackLimits_setFrames, State.stackBytes_setFrames, hl9, hb9]
    refine ⟨⟨⟨⟨by omega, by omega, by omega, by omega, by omega, h6⟩, ?_⟩, ?_⟩, X.book⟩
    · show T.heap.size + R'.cells ≤ e.platform.maxCells
      omega
    · show T.slotsUsed + R'.slots ≤ e.platform.maxSlots
      omega
  · rw [State.stackLimits_setFrames]; rfl
  · rw [State.stackBytes_setFrames]; rfl
  · refine ⟨?_, Nat.le_refl _, Nat.le_refl _, ?_, ?_, fun a c9 h9 => ⟨c9, h9, rfl, rfl, fun _ _ => rfl⟩⟩
    · obtain ⟨t, ht, -⟩ := State.frames_cons hr
      show T.setVm s.vm = { ((T.setVm s.vm).setFrames (.invoking m args :: below)).setFrames (T.setVm s.vm).frames with heap := T.heap, slotsUsed := T.slotsUsed }
      rw [State.setFrames_setFrames, State.setFrames_self ht]
      rfl
    · show T.slotsUsed = T.slotsUsed + ((T.heap.toList.drop T.heap.size).map (·.slots.size)).sum
      rw [List.drop_eq_nil_of_le (Nat.le_of_eq Array.length_toList)]
      rfl
    · show ((T.heap.toList.drop T.heap.size).map (·.slots.size)).sum ≤ 0
      rw [List.drop_eq_nil_of_le (Nat.le_of_eq Array.length_toList)]
      exact Nat.le_refl _
/-- 'throw new E()': new; dup; invokespecial; athrow -/
theorem vx_throw0 {cc : ByteArray} {pc : Nat} (hexec : p.tables.exec = Jvm.exec) (hb : c.code = cc) (hl : l.stackTraces = false) {own cls : String} {names : List String} {ik ic mc ms : Nat} {A : Nat → Prop}
    (hown : s.vm.findClass own = some m.cls) (hcls : Bundle.fit cls = true) (hnames : ∀ n ∈ names, Bundle.fit n = true)
    (hk : (Cond.classLink own ik cls).before args s = true) (hini : (Cond.initialized cls).before args s = true) (hat : ∀ w ∈ vx_at0 own ic cls names, w.before args s = true)
    (hgood : ∀ w ∈ Cond.classLink own ik cls :: Cond.initialized cls :: vx_at0 own ic cls names, vx_ot w = true)
    (hU : vx_Zq Bundle.tN "UNASSIGNED_STACK" Bundle.steD A s s.heap) (hN : vx_Zq Bundle.tN "SUPPRESSED_SENTINEL" Bundle.listD A s s.heap) (hS : va_S A s.heap H locs) (hsize : ls.size = c.maxLocals)
    (d0 : decode cc pc = .ok (.new ik, 3)) (d3 : decode cc (pc + 3) = .ok (.dup, 1)) (d4 : decode cc (pc + 4) = .ok (.invokespecial ic, 3)) (d7 : decode cc (pc + 7) = .ok (.athrow, 1))
    (hout : ∀ x ∈ c.exceptionTable.toList, covers x (pc + 7) = false)
    (hRframes : names.length + 3 < R.frames) (hRlocals : (rest.map fun v => v.category).sum + (13 * (names.length + 1) + 42) ≤ R.locals) (hRcells : cells + 1 ≤ R.cells) (hRslots : slots + 6 ≤ R.slots) (hlocks : meth.locks = false)
    (hx : ∀ t : State, s.vm.Alike t.vm → H.size ≤ t.heap.size → (∀ q : Nat, q < H.size → t.heap[q]? = H[q]?) → XC cls s t)
    (hf : ∀ z ∈ locs, free z.base) (hc : cells + 1 ≤ mc) (hs : slots + 6 ≤ ms) :
    W p l e R s m args below meth c H locs cells slots (vx_MQ below Qc XC args s mc ms free) (F0 m pc ls rest) := by
  intro T hT X
  have htr : e.platform.stackTraces = false := (show e.platform.stackTraces = l.stackTraces by rw [X.admits.platform]).trans hl
  have Y := vx_rebase X (R' := { frames := R.frames, locals := R.locals, cells := 1, slots := 6 }) (Nat.le_refl _) (Nat.le_refl _) hRcells hRslots
  obtain ⟨s', hA⟩ : ∃ z, z = (T.setVm s.vm).setFrames (.invoking m args :: below) := ⟨_, rfl⟩
  rw [← hA] at Y
  have hvm : s'.vm = s.vm := by rw [hA]; rfl
  have hhp : s'.heap = H := by rw [hA]; exact hT
  have hW0 : s.WarmedH s'.vm := by rw [hvm]; exact State.WarmedH.refl s
  have hat' : ∀ w ∈ vx_at0 own ic cls names, w.before args s' = true := fun w hw => vx_ot_at hW0 hvm.symm (hgood w (List.mem_cons_of_mem _ (List.mem_cons_of_mem _ hw))) (hat w hw)
  have hk' : (Cond.classLink own ik cls).before args s' = true := vx_ot_at hW0 hvm.symm (hgood _ List.mem_cons_self) hk
  have hini' : (Cond.initialized cls).before args s' = true := vx_ot_at hW0 hvm.symm (hgood _ (List.mem_cons_of_mem _ List.mem_cons_self)) hini
  have hU' : vx_Zq Bundle.tN "UNASSIGNED_STACK" Bundle.steD A s' s'.heap := by rw [hhp]; exact vx_Zq.moved hW0.alike (hU.kept hS.2.1)
  have hN' : vx_Zq Bundle.tN "SUPPRESSED_SENTINEL" Bundle.listD A s' s'.heap := by rw [hhp]; exact vx_Zq.moved hW0.alike (hN.kept hS.2.1)
  have h : ∀ w ∈ Bundle.ownAtoms0 own ic cls names, w.before args s' = true := vx_own hat' (vx_isRefq hU'.1) (vx_isRefq hN'.1) hU'.2.word hN'.2.word
  have hown' : s'.vm.findClass own = some m.cls := by rw [hvm]; exact hown
  have hins : (Cond.instantiable cls 6).before args s' = true := h _ (by simp [Bundle.ownAtoms0])
  obtain ⟨vm₁, cX, kX, hfX, hkX, -, -, X₁, st1⟩ := Y.newCold hexec (own := own) (C := cls) (index := ik) (n := 6) hown' hk' hins hini'
    (g := F0 m pc ls rest) rfl (by rw [hb]; exact d0) (Nat.le_refl _) (Nat.le_refl _)
  generalize hT1 : (T.setVm vm₁).pushCell { cls := cX, slots := kX.instanceTypes.map defaultValue, vm := .none } = T1 at X₁ st1
  have hcat : (Value.ref T.heap.size).category = 1 := rfl
  have hcellA : T1.heap[T.heap.size]? = some (freshCell cX kX) := by rw [← hT1]; exact State.heap_pushCell_size _ _
  have d3' : decode c.code (pc + 3) = .ok (.dup, 1) := by rw [hb]; exact d3
  obtain ⟨U, hsteps, hrun, hend, hW, hsame, ce, hce, hO⟩ := X₁.ctorThrow0 hexec htr (own := own) (cls := cls) (names := names) (ic := ic) hown' hcls hnames h (fun x hx => nomatch hx) hfX hkX hcellA (by rw [hhp, hT]; exact Nat.le_refl _)
    (g := { method := m, pc := pc + 4, locals := ls, stack := .ref T.heap.size :: .ref T.heap.size :: rest, locked := none }) rfl hsize rfl rfl (rest := rest) rfl
    (by rw [hb]; exact d4) (by rw [hb]; exact d7) hout hRframes (by simp only [List.map_cons, List.sum_cons, hcat]; omega) hlocks
  obtain ⟨f1, f2⟩ := vx_frame hsame
  rw [hhp] at f1 f2
  have hWs : s.WarmedH U.vm := State.WarmedH.trans hW0 hW
  have hcl : s.vm.findClass cls = some ce.cls := by
    have h9 := hO.cls
    rw [hvm] at h9
    exact h9
  have hall : s.sameButNew ({ U with vm := s.vm } : State) locs mc ms := by
    subst hA
    obtain ⟨e1, e2⟩ := hsame
    rw [State.setFrames_setFrames] at e1
    have h2 : (T.setVm s.vm).sameButNew ({ U with vm := s.vm } : State) [] (0 + 1) (0 + 6) := ⟨e1, e2⟩
    have h3 := X.same.trans h2
    rw [List.append_nil] at h3
    exact h3.mono hc hs
  refine ⟨U, ?_, .threw T.heap.size, hrun, hend, Or.inr ⟨T.heap.size, rfl, cls, ce, locs, hx U hWs.alike f1 (fun q hq => f2 q hq (fun z hz => nomatch hz)), hce, hO.vm, hcl, hWs, hall, hf⟩⟩
  refine st1 _ ?_
  show Steps p.tables e below (T1.setTop { method := m, pc := pc + 3, locals := ls, stack := .ref T.heap.size :: rest, locked := none }) _
  jvm_step X₁.here [X₁.here.top, hexec, d3', Value.category]
  exact hsteps
/-- 'throw new E("text")': new; dup; ldc; invokespecial; athrow -/
theorem vx_throwS {cc : ByteArray} {pc : Nat} (hexec : p.tables.exec = Jvm.exec) (hb : c.code = cc) (hl : l.stackTraces = false) {own cls text : String} {names : List String} {ik is ic mc ms sa : Nat} {A : Nat → Prop}
    (hown : s.vm.findClass own = some m.cls) (hcls : Bundle.fit cls = true) (hnames : ∀ n ∈ names, Bundle.fit n = true)
    (hk : (Cond.classLink own ik cls).before args s = true) (hini : (Cond.initialized cls).before args s = true) (hstr : vk_R own is text sa s) (hat : ∀ w ∈ vx_atS own ic cls names, w.before args s = true)
    (hgood : ∀ w ∈ Cond.classLink own ik cls :: Cond.initialized cls :: vx_atS own ic cls names, vx_ot w = true)
    (hU : vx_Zq Bundle.tN "UNASSIGNED_STACK" Bundle.steD A s s.heap) (hN : vx_Zq Bundle.tN "SUPPRESSED_SENTINEL" Bundle.listD A s s.heap) (hS : va_S A s.heap H locs) (hsize : ls.size = c.maxLocals)
    (d0 : decode cc pc = .ok (.new ik, 3)) (d3 : decode cc (pc + 3) = .ok (.dup, 1)) (d4 : decode cc (pc + 4) = .ok (.ldc is, 2)) (d6 : decode cc (pc + 6) = .ok (.invokespecial ic, 3)) (d9 : decode cc (pc + 9) = .ok (.athrow, 1))
    (hout : ∀ x ∈ c.exceptionTable.toList, covers x (pc + 9) = false)
    (hRframes : names.length + 3 < R.frames) (hRlocals : (rest.map fun v => v.category).sum + (13 * (names.length + 1) + 43) ≤ R.locals) (hRcells : cells + 1 ≤ R.cells) (hRslots : slots + 6 ≤ R.slots) (hlocks : meth.locks = false)
    (hx : ∀ t : State, s.vm.Alike t.vm → H.size ≤ t.heap.size → (∀ q : Nat, q < H.size → t.heap[q]? = H[q]?) → XC cls s t)
    (hf : ∀ z ∈ locs, free z.base) (hc : cells + 1 ≤ mc) (hs : slots + 6 ≤ ms) :
    W p l e R s m args below meth c H locs cells slots (vx_MQ below Qc XC args s mc ms free) (F0 m pc ls rest) := by
  intro T hT X
  have htr : e.platform.stackTraces = false := (show e.platform.stackTraces = l.stackTraces by rw [X.admits.platform]).trans hl
  have Y := vx_rebase X (R' := { frames := R.frames, locals := R.locals, cells := 1, slots := 6 }) (Nat.le_refl _) (Nat.le_refl _) hRcells hRslots
  obtain ⟨s', hA⟩ : ∃ z, z = (T.setVm s.vm).setFrames (.invoking m args :: below) := ⟨_, rfl⟩
  rw [← hA] at Y
  have hvm : s'.vm = s.vm := by rw [hA]; rfl
  have hhp : s'.heap = H := by rw [hA]; exact hT
  have hW0 : s.WarmedH s'.vm := by rw [hvm]; exact State.WarmedH.refl s
  have hat' : ∀ w ∈ vx_atS own ic cls names, w.before args s' = true := fun w hw => vx_ot_at hW0 hvm.symm (hgood w (List.mem_cons_of_mem _ (List.mem_cons_of_mem _ hw))) (hat w hw)
  have hk' : (Cond.classLink own ik cls).before args s' = true := vx_ot_at hW0 hvm.symm (hgood _ List.mem_cons_self) hk
  have hini' : (Cond.initialized cls).before args s' = true := vx_ot_at hW0 hvm.symm (hgood _ (List.mem_cons_of_mem _ List.mem_cons_self)) hini
  have hU' : vx_Zq Bundle.tN "UNASSIGNED_STACK" Bundle.steD A s' s'.heap := by rw [hhp]; exact vx_Zq.moved hW0.alike (hU.kept hS.2.1)
  have hN' : vx_Zq Bundle.tN "SUPPRESSED_SENTINEL" Bundle.listD A s' s'.heap := by rw [hhp]; exact vx_Zq.moved hW0.alike (hN.kept hS.2.1)
  have h : ∀ w ∈ Bundle.ownAtoms own ic cls names, w.before args s' = true := vx_own hat' (vx_isRefq hU'.1) (vx_isRefq hN'.1) hU'.2.word hN'.2.word
  have hown' : s'.vm.findClass own = some m.cls := by rw [hvm]; exact hown
  have hins : (Cond.instantiable cls 6).before args s' = true := h _ (by simp [Bundle.ownAtoms])
  obtain ⟨vm₁, cX, kX, hfX, hkX, -, -, X₁, st1⟩ := Y.newCold hexec (own := own) (C := cls) (index := ik) (n := 6) hown' hk' hins hini'
    (g := F0 m pc ls rest) rfl (by rw [hb]; exact d0) (Nat.le_refl _) (Nat.le_refl _)
  generalize hT1 : (T.setVm vm₁).pushCell { cls := cX, slots := kX.instanceTypes.map defaultValue, vm := .none } = T1 at X₁ st1
  have hcat : (Value.ref T.heap.size).category = 1 := rfl
  have hcellA : T1.heap[T.heap.size]? = some (freshCell cX kX) := by rw [← hT1]; exact State.heap_pushCell_size _ _
  have d3' : decode c.code (pc + 3) = .ok (.dup, 1) := by rw [hb]; exact d3
  have d4' : decode c.code (pc + 4) = .ok (.ldc is, 2) := by rw [hb]; exact d4
  have hstr' : vk_R own is text sa s' := vk_R.warm hW0 hstr
  obtain ⟨U, hsteps, hrun, hend, hW, hsame, ce, hce, hO⟩ := X₁.ctorThrowS hexec htr (own := own) (cls := cls) (names := names) (ic := ic) hown' hcls hnames h (fun x hx => nomatch hx) hfX hkX hcellA (by rw [hhp, hT]; exact Nat.le_refl _) (msg := .ref sa) rfl
    (g := { method := m, pc := pc + 6, locals := ls, stack := .ref sa :: .ref T.heap.size :: .ref T.heap.size :: rest, locked := none }) rfl hsize rfl rfl (rest := rest) rfl
    (by rw [hb]; exact d6) (by rw [hb]; exact d9) hout hRframes (by simp only [List.map_cons, List.sum_cons, hcat]; omega) hlocks
  obtain ⟨f1, f2⟩ := vx_frame hsame
  rw [hhp] at f1 f2
  have hWs : s.WarmedH U.vm := State.WarmedH.trans hW0 hW
  have hcl : s.vm.findClass cls = some ce.cls := by
    have h9 := hO.cls
    rw [hvm] at h9
    exact h9
  have hall : s.sameButNew ({ U with vm := s.vm } : State) locs mc ms := by
    subst hA
    obtain ⟨e1, e2⟩ := hsame
    rw [State.setFrames_setFrames] at e1
    have h2 : (T.setVm s.vm).sameButNew ({ U with vm := s.vm } : State) [] (0 + 1) (0 + 6) := ⟨e1, e2⟩
    have h3 := X.same.trans h2
    rw [List.append_nil] at h3
    exact h3.mono hc hs
  refine ⟨U, ?_, .threw T.heap.size, hrun, hend, Or.inr ⟨T.heap.size, rfl, cls, ce, locs, hx U hWs.alike f1 (fun q hq => f2 q hq (fun z hz => nomatch hz)), hce, hO.vm, hcl, hWs, hall, hf⟩⟩
  refine st1 _ ?_
  show Steps p.tables e below (T1.setTop { method := m, pc := pc + 3, locals := ls, stack := .ref T.heap.size :: rest, locked := none }) _
  jvm_step X₁.here [X₁.here.top, hexec, d3', Value.category]
  exact X₁.ldcString hexec (own := own) (text := text) (index := is) (a := sa) hown' hstr'.1 hstr'.2
    (g := { method := m, pc := pc + 4, locals := ls, stack := .ref T.heap.size :: .ref T.heap.size :: rest, locked := none }) rfl d4' _ hsteps
/-- 'throw new E("text")', the text by a wide index -/
theorem vx_throwSW {cc : ByteArray} {pc : Nat} (hexec : p.tables.exec = Jvm.exec) (hb : c.code = cc) (hl : l.stackTraces = false) {own cls text : String} {names : List String} {ik is ic mc ms sa : Nat} {A : Nat → Prop}
    (hown : s.vm.findClass own = some m.cls) (hcls : Bundle.fit cls = true) (hnames : ∀ n ∈ names, Bundle.fit n = true)
    (hk : (Cond.classLink own ik cls).before args s = true) (hini : (Cond.initialized cls).before args s = true) (hstr : vk_R own is text sa s) (hat : ∀ w ∈ vx_atS own ic cls names, w.before args s = true)
    (hgood : ∀ w ∈ Cond.classLink own ik cls :: Cond.initialized cls :: vx_atS own ic cls names, vx_ot w = true)
    (hU : vx_Zq Bundle.tN "UNASSIGNED_STACK" Bundle.steD A s s.heap) (hN : vx_Zq Bundle.tN "SUPPRESSED_SENTINEL" Bundle.listD A s s.heap) (hS : va_S A s.heap H locs) (hsize : ls.size = c.maxLocals)
    (d0 : decode cc pc = .ok (.new ik, 3)) (d3 : decode cc (pc + 3) = .ok (.dup, 1)) (d4 : decode cc (pc + 4) = .ok (.ldc_w is, 3)) (d7 : decode cc (pc + 7) = .ok (.invokespecial ic, 3)) (d10 : decode cc (pc + 10) = .ok (.athrow, 1))
    (hout : ∀ x ∈ c.exceptionTable.toList, covers x (pc + 10) = false)
    (hRframes : names.length + 3 < R.frames) (hRlocals : (rest.map fun v => v.category).sum + (13 * (names.length + 1) + 43) ≤ R.locals) (hRcells : cells + 1 ≤ R.cells) (hRslots : slots + 6 ≤ R.slots) (hlocks : meth.locks = false)
    (hx : ∀ t : State, s.vm.Alike t.vm → H.size ≤ t.heap.size → (∀ q : Nat, q < H.size → t.heap[q]? = H[q]?) → XC cls s t)
    (hf : ∀ z ∈ locs, free z.base) (hc : cells + 1 ≤ mc) (hs : slots + 6 ≤ ms) :
    W p l e R s m args below meth c H locs cells slots (vx_MQ below Qc XC args s mc ms free) (F0 m pc ls rest) := by
  intro T hT X
  have htr : e.platform.stackTraces = false := (show e.platform.stackTraces = l.stackTraces by rw [X.admits.platform]).trans hl
  have Y := vx_rebase X (R' := { frames := R.frames, locals := R.locals, cells := 1, slots := 6 }) (Nat.le_refl _) (Nat.le_refl _) hRcells hRslots
  obtain ⟨s', hA⟩ : ∃ z, z = (T.setVm s.vm).setFrames (.invoking m args :: below) := ⟨_, rfl⟩
  rw [← hA] at Y
  have hvm : s'.vm = s.vm := by rw [hA]; rfl
  have hhp : s'.heap = H := by rw [hA]; exact hT
  have hW0 : s.WarmedH s'.vm := by rw [hvm]; exact State.WarmedH.refl s
  have hat' : ∀ w ∈ vx_atS own ic cls names, w.before args s' = true := fun w hw => vx_ot_at hW0 hvm.symm (hgood w (List.mem_cons_of_mem _ (List.mem_cons_of_mem _ hw))) (hat w hw)
  have hk' : (Cond.classLink own ik cls).before args s' = true := vx_ot_at hW0 hvm.symm (hgood _ List.mem_cons_self) hk
  have hini' : (Cond.initialized cls).before args s' = true := vx_ot_at hW0 hvm.symm (hgood _ (List.mem_cons_of_mem _ List.mem_cons_self)) hini
  have hU' : vx_Zq Bundle.tN "UNASSIGNED_STACK" Bundle.steD A s' s'.heap := by rw [hhp]; exact vx_Zq.moved hW0.alike (hU.kept hS.2.1)
  have hN' : vx_Zq Bundle.tN "SUPPRESSED_SENTINEL" Bundle.listD A s' s'.heap := by rw [hhp]; exact vx_Zq.moved hW0.alike (hN.kept hS.2.1)
  have h : ∀ w ∈ Bundle.ownAtoms own ic cls names, w.before args s' = true := vx_own hat' (vx_isRefq hU'.1) (vx_isRefq hN'.1) hU'.2.word hN'.2.word
  have hown' : s'.vm.findClass own = some m.cls := by rw [hvm]; exact hown
  have hins : (Cond.instantiable cls 6).before args s' = true := h _ (by simp [Bundle.ownAtoms])
  obtain ⟨vm₁, cX, kX, hfX, hkX, -, -, X₁, st1⟩ := Y.newCold hexec (own := own) (C := cls) (index := ik) (n := 6) hown' hk' hins hini'
    (g := F0 m pc ls rest) rfl (by rw [hb]; exact d0) (Nat.le_refl _) (Nat.le_refl _)
  generalize hT1 : (T.setVm vm₁).pushCell { cls := cX, slots := kX.instanceTypes.map defaultValue, vm := .none } = T1 at X₁ st1
  have hcat : (Value.ref T.heap.size).category = 1 := rfl
  have hcellA : T1.heap[T.heap.size]? = some (freshCell cX kX) := by rw [← hT1]; exact State.heap_pushCell_size _ _
  have d3' : decode c.code (pc + 3) = .ok (.dup, 1) := by rw [hb]; exact d3
  have d4' : decode c.code (pc + 4) = .ok (.ldc_w is, 3) := by rw [hb]; exact d4
  have hstr' : vk_R own is text sa s' := vk_R.warm hW0 hstr
  obtain ⟨U, hsteps, hrun, hend, hW, hsame, ce, hce, hO⟩ := X₁.ctorThrowS hexec htr (own := own) (cls := cls) (names := names) (ic := ic) hown' hcls hnames h (fun x hx => nomatch hx) hfX hkX hcellA (by rw [hhp, hT]; exact Nat.le_refl _) (msg := .ref sa) rfl
    (g := { method := m, pc := pc + 7, locals := ls, stack := .ref sa :: .ref T.heap.size :: .ref T.heap.size :: rest, locked := none }) rfl hsize rfl rfl (rest := rest) rfl
    (by rw [hb]; exact d7) (by rw [hb]; exact d10) hout hRframes (by simp only [List.map_cons, List.sum_cons, hcat]; omega) hlocks
  obtain ⟨f1, f2⟩ := vx_frame hsame
  rw [hhp] at f1 f2
  have hWs : s.WarmedH U.vm := State.WarmedH.trans hW0 hW
  have hcl : s.vm.findClass cls = some ce.cls := by
    have h9 := hO.cls
    rw [hvm] at h9
    exact h9
  have hall : s.sameButNew ({ U with vm := s.vm } : State) locs mc ms := by
    subst hA
    obtain ⟨e1, e2⟩ := hsame
    rw [State.setFrames_setFrames] at e1
    have h2 : (T.setVm s.vm).sameButNew ({ U with vm := s.vm } : State) [] (0 + 1) (0 + 6) := ⟨e1, e2⟩
    have h3 := X.same.trans h2
    rw [List.append_nil] at h3
    exact h3.mono hc hs
  refine ⟨U, ?_, .threw T.heap.size, hrun, hend, Or.inr ⟨T.heap.size, rfl, cls, ce, locs, hx U hWs.alike f1 (fun q hq => f2 q hq (fun z hz => nomatch hz)), hce, hO.vm, hcl, hWs, hall, hf⟩⟩
  refine st1 _ ?_
  show Steps p.tables e below (T1.setTop { method := m, pc := pc + 3, locals := ls, stack := .ref T.heap.size :: rest, locked := none }) _
  jvm_step X₁.here [X₁.here.top, hexec, d3', Value.category]
  exact X₁.ldcStringW hexec (own := own) (text := text) (index := is) (a := sa) hown' hstr'.1 hstr'.2
    (g := { method := m, pc := pc + 4, locals := ls, stack := .ref T.heap.size :: .ref T.heap.size :: rest, locked := none }) rfl d4' _ hsteps
end Ends
section Bodies
variable {l : Launch}
theorem vx_ofW {y : MethodName} {ws ws' : List Cond} {rm : Room} {Pc : Array Value → State → Prop} {Qc : Array Value → State → Outcome → State → Prop} {XC : String → State → State → Prop} {mc ms : Nat} {free : Addr → Prop} {cc : ByteArray} {maxL : Nat} {ret : Option FieldType}
    (hy : plainName y.cls = true) (hw : ws = Cond.code y cc maxL ret :: ws')
    (body : ∀ p e s m args below meth c s₁, BodyLoose p l y (headSpec ws rm) cc maxL ret e s m args below meth c s₁ → c.maxLocals = maxL → (∀ x ∈ c.exceptionTable.toList, False) → Pc args s →
      W p l e (headSpec ws rm).room s m args below meth c s.heap [] 0 0 (vx_MQ below Qc XC args s mc ms free) (entryFrame m args maxL)) : vx_Met l y ws rm Pc Qc XC mc ms free := by
  refine MetFree.of_bodyS (code := cc) (maxLocals := maxL) (ret := ret) hy ?_ ?_
  · intro args s m h hn
    obtain ⟨meth, c, h1, h2, h3, h4, h5, h6, -, -⟩ := Cond.code_spec hn (atoms_spec (ws := ws) h _ (by rw [hw]; exact List.mem_cons_self))
    exact ⟨meth, c, h1, h2, h3, h4, h5, h6⟩
  · intro p e s m args below meth c s₁ B hml hP _
    have hh0 : s₁.heap = s.heap := by rw [B.state]; rfl
    have ht : ∀ x ∈ c.exceptionTable.toList, False := by
      obtain ⟨meth9, c9, h1, h2, -, -, -, -, h7, -⟩ := Cond.code_spec B.named (atoms_spec (ws := ws) B.pre _ (by rw [hw]; exact List.mem_cons_self))
      cases Option.some.inj (h1.symm.trans B.method)
      cases Option.some.inj (h2.symm.trans (Stand.of_body B).code)
      intro x hx
      rw [Array.isEmpty_iff.mp h7] at hx
      cases hx
    obtain ⟨t, a1, o, b1, b2, b3⟩ := body p e s m args below meth c s₁ B hml ht hP s₁ hh0 (Stand.of_body B)
    exact ⟨t, o, a1, b1, b2, b3⟩
/-- the table of a body with handlers -/
theorem vx_table {p : Program} {x y : MethodName} {S : Spec} {cc bytes : ByteArray} {maxL maxL' : Nat} {ret ret' : Option FieldType} {e : Env} {s s₁ : State} {m : MethodId} {args : Array Value} {below : List Frame} {meth : Method} {c : Code} {hh : List (Nat × Nat × Nat × Nat)}
    (B : BodyLoose p l y S cc maxL ret e s m args below meth c s₁) (h : (Cond.codeWith y bytes maxL' ret' hh).before args s = true) : c.exceptionTable.toList = tableOf hh := by
  obtain ⟨m9, meth9, c9, hn9, h1, h2, -, -, h6, -⟩ := Cond.codeWith_spec h
  cases Option.some.inj (hn9.symm.trans B.named)
  cases Option.some.inj (h1.symm.trans B.method)
  cases Option.some.inj (h2.symm.trans (Stand.of_body B).code)
  rw [← h6, table_eq]
end Bodies
end VXA
/-! ===== END ===== -/
/-! ===== BEGIN a static call of a method with an exception table ===== -/
section VXS
variable {p : Program} {l : Launch} {e : Env} {R : Room} {s : State} {m : MethodId} {args : Array Value} {below : List Frame} {meth : Method} {c : Code} {T : State} {H : Heap} {locs : List Loc} {cells slots : Nat}
abbrev vx_CSW (R : Room) (s : State) (args : Array Value) (own : String) (index : Nat) (y : MethodName) (bytes : ByteArray) (maxL : Nat) (ret : Option FieldType) (hh : List (Nat × Nat × Nat × Nat)) (ws : List Cond) (rm : Room) (mc ms n : Nat) : Prop :=
  (rm.cells = mc ∧ rm.slots = ms ∧ rm.frames + 1 ≤ R.frames ∧ 8 + (maxL + 11) + rm.locals ≤ R.locals ∧ (∀ w ∈ ws, ∀ (a' : Array Value) (U : State), s.WarmedH U.vm → w.before a' U = true) ∧ Cond.codeWith y bytes maxL ret hh ∈ ws) ∧
  (Cond.codeWith y bytes maxL ret hh).before args s = true ∧ (Cond.initialized y.cls).before args s = true ∧ (y.cls ≠ "java/lang/invoke/MethodHandle" ∧ y.cls ≠ "java/lang/invoke/VarHandle") ∧
  (∀ sig, parseMethodDescriptor y.desc = some sig → n = sig.parameters.length) ∧ (Cond.methodLink own index y).before args s = true ∧ (Cond.static y).before args s = true
theorem vx_cwSW {own : String} {index maxL mc ms : Nat} {y : MethodName} {bytes : ByteArray} {ret : Option FieldType} {hh : List (Nat × Nat × Nat × Nat)} {Ts ws ws' : List Cond} {rm : Room} (n : Nat) (ht : ∀ w ∈ Ts, w.before args s = true) (hT : GoodIn Ts (va_wsS own index y ws)) (hw : ws = Cond.codeWith y bytes maxL ret hh :: ws') (hrc : rm.cells = mc) (hrs : rm.slots = ms)
    (hd : y.cls ≠ "java/lang/invoke/MethodHandle" ∧ y.cls ≠ "java/lang/invoke/VarHandle" ∧ (parseMethodDescriptor y.desc).map (fun d => d.parameters.length) = some n) (hR : rm.frames + 1 ≤ R.frames ∧ 8 + (maxL + 11) + rm.locals ≤ R.locals) :
    vx_CSW R s args own index y bytes maxL ret hh ws rm mc ms n := by
  have ok : ∀ w ∈ va_wsS own index y ws, w.before args s = true := fun w h => ht w (hT w h).1
  have hG : GoodIn Ts ws := fun w h => hT w (by unfold va_wsS; exact List.mem_append_right _ h)
  have hc : Cond.codeWith y bytes maxL ret hh ∈ ws := by rw [hw]; exact List.mem_cons_self
  refine ⟨⟨hrc, hrs, hR.1, hR.2, pay_in ht hG, hc⟩, ht _ (hG _ hc).1, ok _ (by simp [va_wsS]), ⟨hd.1, hd.2.1⟩, fun sig h => ?_, ok _ (by simp [va_wsS]), ok _ (by simp [va_wsS])⟩
  have h2 := hd.2.2
  rw [h] at h2
  exact (Option.some.inj h2).symm
theorem vx_callSW (X : Stand p l e R s m args below meth c T locs cells slots) (hexec : p.tables.exec = Jvm.exec) {own : String} {index : Nat} {y : MethodName} {bytes : ByteArray} {maxL : Nat} {ret : Option FieldType} {hh : List (Nat × Nat × Nat × Nat)}
    (hown : s.vm.findClass own = some m.cls) (hlink : (Cond.methodLink own index y).before args s = true) (hstat : (Cond.static y).before args s = true) (hinit : (Cond.initialized y.cls).before args s = true)
    (hcode : (Cond.codeWith y bytes maxL ret hh).before args s = true) (hy : y.cls ≠ "java/lang/invoke/MethodHandle" ∧ y.cls ≠ "java/lang/invoke/VarHandle")
    {W9 : Nat} {Pre : Pt → Array Value → Prop} {Post : Pt → Array Value → Option Value → Pt → Prop} (hK : Back l R p e below s args y 3 W9 Pre Post)
    {g : JFrame} (hg : g.method = m) (hsize : g.locals.size = c.maxLocals) {argsL rest : List Value} (hlen : ∀ sig, parseMethodDescriptor y.desc = some sig → argsL.length = sig.parameters.length)
    (hstack : g.stack = argsL.reverse ++ rest) (hW : 2 * g.monitorRoom + (rest.map fun v => v.category).sum ≤ W9) (hdg : decode c.code g.pc = .ok (.invokestatic index, 3))
    (hpre : ∀ vm₁, s.WarmedH vm₁ → Pre ⟨T.setVm vm₁, locs, cells, slots⟩ argsL.toArray) :
    ∃ (v : Option Value) (vm₁ : Vm) (B : Pt), s.WarmedH vm₁ ∧ Stand p l e R s m args below meth c B.U B.locs B.cells B.slots ∧ Post ⟨T.setVm vm₁, locs, cells, slots⟩ argsL.toArray v B ∧
      ∀ target, Steps p.tables e below (B.U.setTop { g with pc := g.pc + 3, stack := v.toList ++ rest }) target → Steps p.tables e below (T.setTop g) target := by
  obtain ⟨mk, methM, cM, hnamed, hmethM, -, -, -, -, -, -, hsigM⟩ := Cond.codeWith_spec hcode
  have hstatic : methM.isStatic = true := Cond.static_spec hnamed hmethM hstat
  obtain ⟨kP, hkP, -⟩ := className_of_methodNamed hnamed
  have hinitP : kP.init = .initialized := Cond.initialized_spec (findClass_of_methodNamed hnamed) hkP hinit
  obtain ⟨vm₁, X₁, hstep₁⟩ := X.invokestatic hexec hown hlink hnamed hmethM hstatic hkP hinitP hy (g := g) hg (argsL := argsL) (rest := rest) (hlen _ hsigM) hstack hdg
  obtain ⟨v, B, X', hpost, hsteps⟩ := hK m meth c ⟨T.setVm vm₁, locs, cells, slots⟩ { g with stack := rest } (.invokestatic index) mk argsL.toArray X₁ hg hsize hdg hW (X₁.named hnamed) (hpre vm₁ X₁.warmed)
  exact ⟨v, vm₁, B, X₁.warmed, X', hpost, fun target h => hstep₁ _ fun acts => by rw [doInvoke_state]; exact hsteps.trans h⟩
theorem vx_runSW {y : MethodName} {bytes cc : ByteArray} {maxL nL mc ms n index : Nat} {ret : Option FieldType} {hh : List (Nat × Nat × Nat × Nat)} {ws : List Cond} {rm : Room} {Pc : Array Value → State → Prop} {Qc : Array Value → State → Outcome → State → Prop} {free : Addr → Prop} {Ts : List Cond} {own : String} {As rest : List Value} {g : JFrame}
    (S : CallFix p m c cc nL s args Ts own) (hM : Met l y ws rm Pc Qc mc ms free) (cw : vx_CSW R s args own index y bytes maxL ret hh ws rm mc ms n) (hp : PreS s H Pc As)
    (hg : g.method = m) (hn : As.length = n) (hsize : g.locals.size = nL) (hstack : g.stack = As.reverse ++ rest) (hW : 2 * g.monitorRoom + (rest.map fun v => v.category).sum ≤ 8) (hdg : decode cc g.pc = .ok (.invokestatic index, 3)) (hf : cells + mc ≤ R.cells ∧ slots + ms ≤ R.slots) :
    va_Run p l e R s m args below meth c H locs cells slots mc ms g rest (Qc As.toArray) (free) := by
  obtain ⟨⟨hrc, hrs, hfr, hlo, hws, hcw⟩, hcode, hini, hy, hlen, hl, hstt⟩ := cw
  have hK : Back l R p e below s args y 3 8 (PreOf R mc ms Pc) (PostOf Qc mc ms free) := va_backW (hh := hh) (bytes := bytes) (maxL := maxL) (ret := ret) hM hp.1 hrc hrs hfr hlo hws hcw (fun a' U hW => word_at hW (Or.inl (by first | rfl | simp [Cond.onTables, Cond.keeps, Cond.steady])) hini)
  obtain ⟨hx, hb, hml, ho, -⟩ := S
  intro T hT X
  obtain ⟨v, vm₁, ⟨U', l2, c2, s2⟩, hW₁, X', ⟨g', mk, t, L, e1, e2, hq, h1, hL, h2, h3⟩, st⟩ := vx_callSW X hx (hh := hh) (bytes := bytes) (maxL := maxL) (ret := ret) ho hl hstt hini hcode hy hK hg (hsize.trans hml.symm) (argsL := As) (rest := rest) (fun sig h => hn.trans (hlen sig h)) hstack hW (by rw [hb]; exact hdg)
    (fun vm₁ hW₁ => ⟨hf.1, hf.2, hp.2 (T.setVm vm₁) hT hW₁⟩)
  dsimp only [Pt.U, Pt.locs, Pt.cells, Pt.slots] at X' e1 e2 h1 h2 h3 st
  subst h1; subst h2; subst h3
  exact ⟨v, (T.setVm vm₁).calling g' mk As.toArray, t, U', L, hT, X', hL, e1, e2, hq, st⟩
/-- not caught here, past rows that name other classes: it goes on to the caller -/
theorem vx_outP {p : Program} {l : Launch} {e : Env} {R : Room} {s : State} {m : MethodId} {args : Array Value} {below : List Frame} {meth : Method} {c : Code} {H : Heap} {locs : List Loc} {cells slots : Nat} {free : Addr → Prop} {ls : Array Slot} {rest : List Value} {Qc : Array Value → State → Outcome → State → Prop} {XC : String → State → State → Prop}
    {pc : Nat} {own E : String} {ce : Cell} {q : Addr} {mc ms : Nat} (hown : s.vm.findClass own = some m.cls) (hlocks : meth.locks = false)
    (hpass : ∀ z ∈ c.exceptionTable.toList, covers z pc = false ∨ (z.catchType ≠ 0 ∧ ∃ nm : String, (Cond.classLink own z.catchType nm).before args s = true ∧ va_Nc E nm s)) (hcell : H[q]? = some ce) (hv : ce.vm = .none) (hcl : s.vm.findClass E = some ce.cls)
    (hx : ∀ t : State, t.heap = H → s.vm.Alike t.vm → XC E s t) (hf : ∀ z ∈ locs, free z.base) (hc : cells ≤ mc) (hs : slots ≤ ms) :
    vx_W p l e R s m args below meth c H locs cells slots (vx_MQ below Qc XC args s mc ms free) (F0 m pc ls rest) q := by
  intro T hT X
  have hpl : e.platform.magicAccessors = ({} : Platform).magicAccessors := by rw [X.admits.platform]
  obtain ⟨vm', hW', X', st⟩ := X.outThrough hlocks q (g := F0 m pc ls rest) rfl rfl rfl (cell := ce) (by rw [hT]; exact hcell) (by rw [hv]; rfl)
    (by obtain ⟨k9, h9, -⟩ := Vm.findClass_spec hcl; exact ⟨k9, h9⟩) (fun z hz => by
      rcases hpass z hz with h | ⟨hz0, nm, hl1, hn1⟩
      · exact Or.inl h
      · obtain ⟨c6, hc6, hcl6⟩ := Cond.classLink_spec hown hl1 e.platform hpl
        obtain ⟨a8, b8, h1, h2, h3⟩ := hn1
        cases Option.some.inj (h1.symm.trans hcl)
        cases Option.some.inj (h2.symm.trans hc6)
        exact Or.inr ⟨hz0, _, hcl6, h3⟩)
  obtain ⟨g₀, hfr⟩ := X'.frames_eq
  have hcell9 : ((T.setVm vm').setFrames (.throwing q :: below)).heap[q]? = some ce := by
    show T.heap[q]? = some ce
    rw [hT]; exact hcell
  have hend : Ended ((T.setVm vm').setFrames (.throwing q :: below)) below (.threw q) := State.frames_setFrames _ (State.cur_lt_of_frames hfr)
  refine ⟨(T.setVm vm').setFrames (.throwing q :: below), ?_, .threw q, X'.here.running, hend, Or.inr ⟨q, rfl, E, ce, locs, hx _ hT (X'.ends _).1.alike, hcell9, hv, hcl, (X'.ends _).1, (X'.ends _).2.mono hc hs, hf⟩⟩
  rw [X.pushThrowing_eq]
  exact st
/-- a thing of a world lies in the heap -/
theorem vx_lt {D : va_G} {cl : List vw_C} {ws : va_W} {H1 : Heap} (h : va_P D cl ws H1) {k : Nat} {q : Nat × va_E} (hk : ws[k]? = some q) : q.1 < H1.size := (h k q hk).lt
end VXS
/-! ===== END ===== -/
/-! ===== BEGIN methods with a table of their own: called by a name, returning or throwing ===== -/
section VXH
/-! vx_backW, vx_callVX, vx_callSX, vx_callVW, vx_runVW, vx_runVX, vx_runSX, vx_ofWH follow the same proofs as their sisters above (Free/Laws.lean, Shelf42/LK1.lean); vx_outP calls Shelf42/NT130.lean (outThrough). -/
section
variable {l : Launch} {R : Room} {p : Program} {e : Env} {below : List Frame} {s : State} {sargs : Array Value} {y : MethodName} {len W9 : Nat}
theorem vx_backW {ws : List Cond} {rm : Room} {Pc : Array Value → State → Prop} {Qc : Array Value → State → Outcome → State → Prop} {XC : String → State → State → Prop} {mc ms : Nat} {free : Addr → Prop} {bytes : ByteArray} {maxL : Nat} {ret : Option FieldType} {hh : List (Nat × Nat × Nat × Nat)}
    (hM : vx_Met l y ws rm Pc Qc XC mc ms free) (hblind : FrameBlind Pc) (hrc : rm.cells = mc) (hrs : rm.slots = ms)
    (hframes : rm.frames + 1 ≤ R.frames) (hlocals : W9 + (maxL + 11) + rm.locals ≤ R.locals)
    (hws : ∀ w ∈ ws, ∀ a' U, s.WarmedH U.vm → w.before a' U = true) (hcode : Cond.codeWith y bytes maxL ret hh ∈ ws) (hinit : ∀ a' U, s.WarmedH U.vm → (Cond.initialized y.cls).before a' U = true) :
    vx_Back l R p e below s sargs y len W9 (PreOf R mc ms Pc) (PostOf Qc mc ms free) (vx_Post XC mc ms free) := by
  intro m meth c A g ig mk a X hg hsize hdg hW hn hp
  have h1 : (headSpec ws rm).pre.before a A.U = true := atoms_intro fun w hw => hws w hw _ _ X.warmed
  have h2 : (Cond.codeWith y bytes maxL ret hh).before a A.U = true := hws _ hcode _ _ X.warmed
  have h3 : (Cond.initialized y.cls).before a A.U = true := hinit _ _ X.warmed
  have h4 : A.cells + (headSpec ws rm).room.cells ≤ R.cells := by rw [show (headSpec ws rm).room.cells = mc from hrc]; exact hp.1
  have h5 : A.slots + (headSpec ws rm).room.slots ≤ R.slots := by rw [show (headSpec ws rm).room.slots = ms from hrs]; exact hp.2.1
  have hPc : Pc a (A.U.calling g mk a) := hblind _ _ _ _ hp.2.2
  obtain ⟨U, Ls, c0, s0⟩ := A
  dsimp only [Pt.U, Pt.locs, Pt.cells, Pt.slots] at h1 h2 h3 h4 h5 X hn hPc ⊢
  obtain ⟨m9, methY, cY, hn9, hmY, hcY, -, hlY, -⟩ := Cond.codeWith_spec h2
  cases Option.some.inj (hn9.symm.trans hn)
  obtain ⟨kY, hkY, -⟩ := className_of_methodNamed hn
  have hinitY : kY.init = .initialized := Cond.initialized_spec (findClass_of_methodNamed hn) hkY h3
  have h : At U g.method c below := by rw [hg]; exact X.here
  have hlocals9 : W9 + (maxL + 11) + (headSpec ws rm).room.locals ≤ R.locals := hlocals
  have happ : (headSpec ws rm).appliesLoose y e.platform (U.calling g mk a) = true :=
    Spec.appliesLoose_calling (g := g) h hdg hn hkY hinitY
      (X.room_calling (g := g) (R' := (headSpec ws rm).room) hsize hmY hcY hframes (by rw [hlY]; omega) h4 h5) h1
  obtain ⟨mid, hmid⟩ := h.above
  have hfr : (U.setTop g).frames = (.java g :: mid) ++ below := by rw [State.frames_setTop' g h.top, hmid]; rfl
  obtain ⟨o, s₂, hsteps, -, hend, hq⟩ := Steps.callFree hM p X.admits X.cas X.clock (acts := []) hfr happ hPc trivial
  have hq' : vx_Q Qc XC mc ms free a (U.calling g mk a) o s₂ := hq
  rw [State.frames_setTop' g h.top] at hend
  obtain ⟨g₀, hg0⟩ := Option.isSome_iff_exists.mp h.top
  obtain ⟨r, hr⟩ := State.topJava?_eq_some.mp hg0
  have hr' : (({ U with heap := s₂.heap, slotsUsed := s₂.slotsUsed } : State).setVm s₂.vm).frames = .java g₀ :: r := hr
  rcases hq' with ⟨hqc, L, hfe, hL⟩ | ⟨q, rfl, E, ce, L, hx, hce, hcv, hcl, hW₂, hsm, hL⟩
  · obtain ⟨⟨v, rfl⟩, hW₂, e2, q2, q3, q4, q5, q6⟩ := id hfe
    have e3 : s₂ = ({ (U.calling g mk a).setFrames s₂.frames with heap := s₂.heap, slotsUsed := s₂.slotsUsed } : State).setVm s₂.vm := by
      have : s₂ = ({ s₂ with vm := (U.calling g mk a).vm } : State).setVm s₂.vm := rfl
      rw [e2] at this
      exact this
    obtain ⟨c₂, i₂, len₂, hc₂, hd₂, hf₂⟩ := hend
    have hW' : U.WarmedH s₂.vm := hW₂
    have hcc : c₂ = c := by
      have h1 : s₂.code? g.method = U.code? g.method := by
        rw [State.code?_eq, State.code?_eq, hW'.alike.method?]
      exact Option.some.inj (hc₂.symm.trans (h1.trans h.code))
    subst hcc
    have hlen : len₂ = len := by rw [hdg] at hd₂; cases hd₂; rfl
    subst hlen
    have hs₂ : s₂ = (({ U with heap := s₂.heap, slotsUsed := s₂.slotsUsed } : State).setVm s₂.vm).setTop { g with pc := g.pc + len₂, stack := v.toList ++ g.stack } := by
      refine e3.trans ?_
      rw [hf₂, State.calling_eq h.top, State.setFrames_setFrames, State.setTop_of_frames _ hr', hr]
      rfl
    have hsame : U.sameButNew ({ U with heap := s₂.heap, slotsUsed := s₂.slotsUsed } : State) L mc ms := by
      refine ⟨?_, q2, q3, q4, q5, q6⟩
      obtain ⟨t, ht, -⟩ := State.frames_cons hr
      show ({ U with heap := s₂.heap, slotsUsed := s₂.slotsUsed } : State) = { U.setFrames U.frames with heap := s₂.heap, slotsUsed := s₂.slotsUsed }
      rw [State.setFrames_self ht]
    subst hg
    refine Or.inl ⟨v, ⟨(({ U with heap := s₂.heap, slotsUsed := s₂.slotsUsed } : State).setVm s₂.vm), Ls ++ L, c0 + mc, s0 + ms⟩,
      ⟨X.admits, X.cas, X.clock, X.frames, X.room, X.hears, X.method, X.code, (X.here.setHeapUsed s₂.heap s₂.slotsUsed).setVm hW'.alike, X.tail, State.WarmedH.trans X.warmed hW', X.limits, X.bytes, X.same.trans (hsame.setVm s.vm)⟩,
      ⟨g, mk, s₂, L, rfl, rfl, hqc, rfl, hL, rfl, rfl⟩, ?_⟩
    show Steps p.tables e below _ ((({ U with heap := s₂.heap, slotsUsed := s₂.slotsUsed } : State).setVm s₂.vm).setTop { g with pc := g.pc + len₂, stack := v.toList ++ g.stack })
    rw [← hs₂]
    exact hsteps
  · obtain ⟨e2, q2, q3, q4, q5, q6⟩ := id hsm
    have e3 : s₂ = ({ (U.calling g mk a).setFrames s₂.frames with heap := s₂.heap, slotsUsed := s₂.slotsUsed } : State).setVm s₂.vm := by
      have : s₂ = ({ s₂ with vm := (U.calling g mk a).vm } : State).setVm s₂.vm := rfl
      rw [e2] at this
      exact this
    have hf₂ : s₂.frames = .throwing q :: .java g :: U.frames.tail := hend
    have hW' : U.WarmedH s₂.vm := hW₂
    have hs₂ : s₂ = ((({ U with heap := s₂.heap, slotsUsed := s₂.slotsUsed } : State).setVm s₂.vm).setTop g).pushFrame (.throwing q) := by
      refine e3.trans ?_
      rw [hf₂, State.calling_eq h.top, State.setFrames_setFrames, State.pushFrame, State.frames_setTop _ hr', State.setTop_of_frames _ hr', State.setFrames_setFrames, hr]
      rfl
    have hsame : U.sameButNew ({ U with heap := s₂.heap, slotsUsed := s₂.slotsUsed } : State) L mc ms := by
      refine ⟨?_, q2, q3, q4, q5, q6⟩
      obtain ⟨t, ht, -⟩ := State.frames_cons hr
      show ({ U with heap := s₂.heap, slotsUsed := s₂.slotsUsed } : State) = { U.setFrames U.frames with heap := s₂.heap, slotsUsed := s₂.slotsUsed }
      rw [State.setFrames_self ht]
    subst hg
    refine Or.inr ⟨q, ⟨(({ U with heap := s₂.heap, slotsUsed := s₂.slotsUsed } : State).setVm s₂.vm), Ls ++ L, c0 + mc, s0 + ms⟩,
      ⟨X.admits, X.cas, X.clock, X.frames, X.room, X.hears, X.method, X.code, (X.here.setHeapUsed s₂.heap s₂.slotsUsed).setVm hW'.alike, X.tail, State.WarmedH.trans X.warmed hW', X.limits, X.bytes, X.same.trans (hsame.setVm s.vm)⟩,
      ⟨g, mk, s₂, L, E, ce, rfl, rfl, hx, hce, hcv, hcl, rfl, hL, rfl, rfl⟩, ?_⟩
    show Steps p.tables e below _ (((({ U with heap := s₂.heap, slotsUsed := s₂.slotsUsed } : State).setVm s₂.vm).setTop g).pushFrame (.throwing q))
    rw [← hs₂]
    exact hsteps
end
variable {p : Program} {l : Launch} {e : Env} {R : Room} {s : State} {m : MethodId} {args : Array Value} {below : List Frame} {meth : Method} {c : Code} {T : State} {H : Heap} {locs : List Loc} {cells slots : Nat}
theorem vx_callVX (X : Stand p l e R s m args below meth c T locs cells slots) (hexec : p.tables.exec = Jvm.exec) {own C : String} {index : Nat} {y : MethodName} {bytes : ByteArray} {maxL : Nat} {ret : Option FieldType} {hh : List (Nat × Nat × Nat × Nat)}
    (hown : s.vm.findClass own = some m.cls) (hlink : (Cond.methodLink own index y).before args s = true) (hinst : (Cond.instanceMethod y).before args s = true) (hsel : (Cond.selects C y y).before args s = true)
    (hcode : (Cond.codeWith y bytes maxL ret hh).before args s = true) (hy : y.cls ≠ "java/lang/invoke/MethodHandle" ∧ y.cls ≠ "java/lang/invoke/VarHandle")
    {W9 : Nat} {Pre : Pt → Array Value → Prop} {Post : Pt → Array Value → Option Value → Pt → Prop} {PostX : Pt → Array Value → Addr → Pt → Prop} (hK : vx_Back l R p e below s args y 3 W9 Pre Post PostX)
    {b : Addr} {cellB : Cell} (hcell : T.heap[b]? = some cellB) (hobj : cellB.vm.isStatics = false) (hcls : s.vm.findClass C = some cellB.cls)
    {g : JFrame} (hg : g.method = m) (hsize : g.locals.size = c.maxLocals) {argsL rest : List Value} (hlen : ∀ sig, parseMethodDescriptor y.desc = some sig → argsL.length = sig.parameters.length)
    (hstack : g.stack = argsL.reverse ++ .ref b :: rest) (hW : 2 * g.monitorRoom + (rest.map fun v => v.category).sum ≤ W9) (hdg : decode c.code g.pc = .ok (.invokevirtual index, 3))
    (hpre : ∀ vm₁, s.WarmedH vm₁ → Pre ⟨T.setVm vm₁, locs, cells, slots⟩ (Value.ref b :: argsL).toArray) :
    (∃ (v : Option Value) (vm₁ : Vm) (B : Pt), s.WarmedH vm₁ ∧ Stand p l e R s m args below meth c B.U B.locs B.cells B.slots ∧ Post ⟨T.setVm vm₁, locs, cells, slots⟩ (Value.ref b :: argsL).toArray v B ∧
      ∀ target, Steps p.tables e below (B.U.setTop { g with pc := g.pc + 3, stack := v.toList ++ rest }) target → Steps p.tables e below (T.setTop g) target) ∨
    (∃ (q : Addr) (vm₁ : Vm) (B : Pt), s.WarmedH vm₁ ∧ Stand p l e R s m args below meth c B.U B.locs B.cells B.slots ∧ PostX ⟨T.setVm vm₁, locs, cells, slots⟩ (Value.ref b :: argsL).toArray q B ∧
      Steps p.tables e below (T.setTop g) ((B.U.setTop { g with stack := rest }).pushFrame (.throwing q))) := by
  obtain ⟨mk, methM, hnamed, hmethM, hstM, habM⟩ := Cond.instanceMethod_spec hinst
  obtain ⟨m8, methM', cM, hn8, hmethM', -, -, -, -, -, -, hsigM⟩ := Cond.codeWith_spec hcode
  cases Option.some.inj (hn8.symm.trans hnamed)
  cases hmethM.symm.trans hmethM'
  obtain ⟨c2, r2, m2, q1, q2, q3, q4, kP, hkP, hkPi⟩ := Cond.selects_spec hsel
  cases hcls.symm.trans q1
  cases (State.methodFound?_of_named hnamed hy).symm.trans q2
  cases hnamed.symm.trans q3
  have hselP : selectMethod e.platform s.vm cellB.cls mk = .method mk := by rw [Launch.admits_selectMethod X.admits]; exact q4
  obtain ⟨vm₁, X₁, hstep₁⟩ := X.invokevirtual hexec hown hlink hnamed hmethM hstM hkP hkPi hy (a := b) (cell := cellB) hcell
    (fun z h => by rw [h] at hobj; cases hobj) hselP hmethM habM hkP hkPi (g := g) hg (argsL := argsL) (rest := rest) (hlen _ hsigM) hstack hdg
  rcases hK m meth c ⟨T.setVm vm₁, locs, cells, slots⟩ { g with stack := rest } (.invokevirtual index) mk (Value.ref b :: argsL).toArray X₁ hg hsize hdg hW (X₁.named hnamed) (hpre vm₁ X₁.warmed) with ⟨v, B, X', hpost, hsteps⟩ | ⟨q, B, X', hpost, hsteps⟩
  · exact Or.inl ⟨v, vm₁, B, X₁.warmed, X', hpost, fun target h => hstep₁ _ fun acts => by rw [doInvoke_state]; exact hsteps.trans h⟩
  · exact Or.inr ⟨q, vm₁, B, X₁.warmed, X', hpost, hstep₁ _ fun acts => by rw [doInvoke_state]; exact hsteps⟩
theorem vx_callSX (X : Stand p l e R s m args below meth c T locs cells slots) (hexec : p.tables.exec = Jvm.exec) {own : String} {index : Nat} {y : MethodName} {bytes : ByteArray} {maxL : Nat} {ret : Option FieldType} {hh : List (Nat × Nat × Nat × Nat)}
    (hown : s.vm.findClass own = some m.cls) (hlink : (Cond.methodLink own index y).before args s = true) (hstat : (Cond.static y).before args s = true) (hinit : (Cond.initialized y.cls).before args s = true)
    (hcode : (Cond.codeWith y bytes maxL ret hh).before args s = true) (hy : y.cls ≠ "java/lang/invoke/MethodHandle" ∧ y.cls ≠ "java/lang/invoke/VarHandle")
    {W9 : Nat} {Pre : Pt → Array Value → Prop} {Post : Pt → Array Value → Option Value → Pt → Prop} {PostX : Pt → Array Value → Addr → Pt → Prop} (hK : vx_Back l R p e below s args y 3 W9 Pre Post PostX)
    {g : JFrame} (hg : g.method = m) (hsize : g.locals.size = c.maxLocals) {argsL rest : List Value} (hlen : ∀ sig, parseMethodDescriptor y.desc = some sig → argsL.length = sig.parameters.length)
    (hstack : g.stack = argsL.reverse ++ rest) (hW : 2 * g.monitorRoom + (rest.map fun v => v.category).sum ≤ W9) (hdg : decode c.code g.pc = .ok (.invokestatic index, 3))
    (hpre : ∀ vm₁, s.WarmedH vm₁ → Pre ⟨T.setVm vm₁, locs, cells, slots⟩ argsL.toArray) :
    (∃ (v : Option Value) (vm₁ : Vm) (B : Pt), s.WarmedH vm₁ ∧ Stand p l e R s m args below meth c B.U B.locs B.cells B.slots ∧ Post ⟨T.setVm vm₁, locs, cells, slots⟩ argsL.toArray v B ∧
      ∀ target, Steps p.tables e below (B.U.setTop { g with pc := g.pc + 3, stack := v.toList ++ rest }) target → Steps p.tables e below (T.setTop g) target) ∨
    (∃ (q : Addr) (vm₁ : Vm) (B : Pt), s.WarmedH vm₁ ∧ Stand p l e R s m args below meth c B.U B.locs B.cells B.slots ∧ PostX ⟨T.setVm vm₁, locs, cells, slots⟩ argsL.toArray q B ∧
      Steps p.tables e below (T.setTop g) ((B.U.setTop { g with stack := rest }).pushFrame (.throwing q))) := by
  obtain ⟨mk, methM, cM, hnamed, hmethM, -, -, -, -, -, -, hsigM⟩ := Cond.codeWith_spec hcode
  have hstatic : methM.isStatic = true := Cond.static_spec hnamed hmethM hstat
  obtain ⟨kP, hkP, -⟩ := className_of_methodNamed hnamed
  have hinitP : kP.init = .initialized := Cond.initialized_spec (findClass_of_methodNamed hnamed) hkP hinit
  obtain ⟨vm₁, X₁, hstep₁⟩ := X.invokestatic hexec hown hlink hnamed hmethM hstatic hkP hinitP hy (g := g) hg (argsL := argsL) (rest := rest) (hlen _ hsigM) hstack hdg
  rcases hK m meth c ⟨T.setVm vm₁, locs, cells, slots⟩ { g with stack := rest } (.invokestatic index) mk argsL.toArray X₁ hg hsize hdg hW (X₁.named hnamed) (hpre vm₁ X₁.warmed) with ⟨v, B, X', hpost, hsteps⟩ | ⟨q, B, X', hpost, hsteps⟩
  · exact Or.inl ⟨v, vm₁, B, X₁.warmed, X', hpost, fun target h => hstep₁ _ fun acts => by rw [doInvoke_state]; exact hsteps.trans h⟩
  · exact Or.inr ⟨q, vm₁, B, X₁.warmed, X', hpost, hstep₁ _ fun acts => by rw [doInvoke_state]; exact hsteps⟩
theorem vx_callVW (X : Stand p l e R s m args below meth c T locs cells slots) (hexec : p.tables.exec = Jvm.exec) {own C : String} {index : Nat} {y : MethodName} {bytes : ByteArray} {maxL : Nat} {ret : Option FieldType} {hh : List (Nat × Nat × Nat × Nat)}
    (hown : s.vm.findClass own = some m.cls) (hlink : (Cond.methodLink own index y).before args s = true) (hinst : (Cond.instanceMethod y).before args s = true) (hsel : (Cond.selects C y y).before args s = true)
    (hcode : (Cond.codeWith y bytes maxL ret hh).before args s = true) (hy : y.cls ≠ "java/lang/invoke/MethodHandle" ∧ y.cls ≠ "java/lang/invoke/VarHandle")
    {W9 : Nat} {Pre : Pt → Array Value → Prop} {Post : Pt → Array Value → Option Value → Pt → Prop} (hK : Back l R p e below s args y 3 W9 Pre Post)
    {b : Addr} {cellB : Cell} (hcell : T.heap[b]? = some cellB) (hobj : cellB.vm.isStatics = false) (hcls : s.vm.findClass C = some cellB.cls)
    {g : JFrame} (hg : g.method = m) (hsize : g.locals.size = c.maxLocals) {argsL rest : List Value} (hlen : ∀ sig, parseMethodDescriptor y.desc = some sig → argsL.length = sig.parameters.length)
    (hstack : g.stack = argsL.reverse ++ .ref b :: rest) (hW : 2 * g.monitorRoom + (rest.map fun v => v.category).sum ≤ W9) (hdg : decode c.code g.pc = .ok (.invokevirtual index, 3))
    (hpre : ∀ vm₁, s.WarmedH vm₁ → Pre ⟨T.setVm vm₁, locs, cells, slots⟩ (Value.ref b :: argsL).toArray) :
    ∃ (v : Option Value) (vm₁ : Vm) (B : Pt), s.WarmedH vm₁ ∧ Stand p l e R s m args below meth c B.U B.locs B.cells B.slots ∧ Post ⟨T.setVm vm₁, locs, cells, slots⟩ (Value.ref b :: argsL).toArray v B ∧
      ∀ target, Steps p.tables e below (B.U.setTop { g with pc := g.pc + 3, stack := v.toList ++ rest }) target → Steps p.tables e below (T.setTop g) target := by
  obtain ⟨mk, methM, hnamed, hmethM, hstM, habM⟩ := Cond.instanceMethod_spec hinst
  obtain ⟨m8, methM', cM, hn8, hmethM', -, -, -, -, -, -, hsigM⟩ := Cond.codeWith_spec hcode
  cases Option.some.inj (hn8.symm.trans hnamed)
  cases hmethM.symm.trans hmethM'
  obtain ⟨c2, r2, m2, q1, q2, q3, q4, kP, hkP, hkPi⟩ := Cond.selects_spec hsel
  cases hcls.symm.trans q1
  cases (State.methodFound?_of_named hnamed hy).symm.trans q2
  cases hnamed.symm.trans q3
  have hselP : selectMethod e.platform s.vm cellB.cls mk = .method mk := by rw [Launch.admits_selectMethod X.admits]; exact q4
  obtain ⟨vm₁, X₁, hstep₁⟩ := X.invokevirtual hexec hown hlink hnamed hmethM hstM hkP hkPi hy (a := b) (cell := cellB) hcell
    (fun z h => by rw [h] at hobj; cases hobj) hselP hmethM habM hkP hkPi (g := g) hg (argsL := argsL) (rest := rest) (hlen _ hsigM) hstack hdg
  obtain ⟨v, B, X', hpost, hsteps⟩ := hK m meth c ⟨T.setVm vm₁, locs, cells, slots⟩ { g with stack := rest } (.invokevirtual index) mk (Value.ref b :: argsL).toArray X₁ hg hsize hdg hW (X₁.named hnamed) (hpre vm₁ X₁.warmed)
  exact ⟨v, vm₁, B, X₁.warmed, X', hpost, fun target h => hstep₁ _ fun acts => by rw [doInvoke_state]; exact hsteps.trans h⟩
abbrev vx_CVW (R : Room) (s : State) (args : Array Value) (own C : String) (index : Nat) (y : MethodName) (bytes : ByteArray) (maxL : Nat) (ret : Option FieldType) (hh : List (Nat × Nat × Nat × Nat)) (ws : List Cond) (rm : Room) (mc ms n : Nat) : Prop :=
  (rm.cells = mc ∧ rm.slots = ms ∧ rm.frames + 1 ≤ R.frames ∧ 8 + (maxL + 11) + rm.locals ≤ R.locals ∧ (∀ w ∈ ws, ∀ (a' : Array Value) (U : State), s.WarmedH U.vm → w.before a' U = true) ∧ Cond.codeWith y bytes maxL ret hh ∈ ws) ∧
  (Cond.codeWith y bytes maxL ret hh).before args s = true ∧ (Cond.initialized y.cls).before args s = true ∧ (y.cls ≠ "java/lang/invoke/MethodHandle" ∧ y.cls ≠ "java/lang/invoke/VarHandle") ∧
  (∀ sig, parseMethodDescriptor y.desc = some sig → n = sig.parameters.length) ∧ (Cond.methodLink own index y).before args s = true ∧ (Cond.instanceMethod y).before args s = true ∧ (Cond.selects C y y).before args s = true
theorem vx_cwVW {own C : String} {index maxL mc ms : Nat} {y : MethodName} {bytes : ByteArray} {ret : Option FieldType} {hh : List (Nat × Nat × Nat × Nat)} {Ts ws ws' : List Cond} {rm : Room} (n : Nat) (ht : ∀ w ∈ Ts, w.before args s = true) (hT : GoodIn Ts (wsV own index C y ws)) (hw : ws = Cond.codeWith y bytes maxL ret hh :: ws') (hrc : rm.cells = mc) (hrs : rm.slots = ms)
    (hd : y.cls = C ∧ y.cls ≠ "java/lang/invoke/MethodHandle" ∧ y.cls ≠ "java/lang/invoke/VarHandle" ∧ (parseMethodDescriptor y.desc).map (fun d => d.parameters.length) = some n) (hR : rm.frames + 1 ≤ R.frames ∧ 8 + (maxL + 11) + rm.locals ≤ R.locals) :
    vx_CVW R s args own C index y bytes maxL ret hh ws rm mc ms n := by
  obtain ⟨hC, hd⟩ := hd
  subst hC
  have ok : ∀ w ∈ wsV own index y.cls y ws, w.before args s = true := fun w h => ht w (hT w h).1
  have hG : GoodIn Ts ws := fun w h => hT w (by unfold wsV; exact List.mem_append_right _ h)
  have hc : Cond.codeWith y bytes maxL ret hh ∈ ws := by rw [hw]; exact List.mem_cons_self
  refine ⟨⟨hrc, hrs, hR.1, hR.2, pay_in ht hG, hc⟩, ht _ (hG _ hc).1, ok _ (by simp [wsV]), ⟨hd.1, hd.2.1⟩, fun sig h => ?_, ok _ (by simp [wsV]), ok _ (by simp [wsV]), ok _ (by simp [wsV])⟩
  have h2 := hd.2.2
  rw [h] at h2
  exact (Option.some.inj h2).symm
theorem vx_runVW {y : MethodName} {bytes cc : ByteArray} {maxL nL mc ms n index : Nat} {ret : Option FieldType} {hh : List (Nat × Nat × Nat × Nat)} {ws : List Cond} {rm : Room} {Pc : Array Value → State → Prop} {Qc : Array Value → State → Outcome → State → Prop} {free : Addr → Prop} {Ts : List Cond} {own C : String} {b : Addr} {As rest : List Value} {g : JFrame}
    (S : CallFix p m c cc nL s args Ts own) (hM : Met l y ws rm Pc Qc mc ms free) (cw : vx_CVW R s args own C index y bytes maxL ret hh ws rm mc ms n) (hp : PreV s H C b Pc As)
    (hg : g.method = m) (hn : As.length = n) (hsize : g.locals.size = nL) (hstack : g.stack = As.reverse ++ .ref b :: rest) (hW : 2 * g.monitorRoom + (rest.map fun v => v.category).sum ≤ 8) (hdg : decode cc g.pc = .ok (.invokevirtual index, 3)) (hf : cells + mc ≤ R.cells ∧ slots + ms ≤ R.slots) :
    va_Run p l e R s m args below meth c H locs cells slots mc ms g rest (Qc (Value.ref b :: As).toArray) free := by
  obtain ⟨⟨hrc, hrs, hfr, hlo, hws, hcw⟩, hcode, hini, hy, hlen, hl, hin, hse⟩ := cw
  have hK : Back l R p e below s args y 3 8 (PreOf R mc ms Pc) (PostOf Qc mc ms free) := va_backW (hh := hh) (bytes := bytes) (maxL := maxL) (ret := ret) hM hp.1 hrc hrs hfr hlo hws hcw (fun a' U hW => word_at hW (Or.inl (by first | rfl | simp [Cond.onTables, Cond.keeps, Cond.steady])) hini)
  obtain ⟨hx, hb, hml, ho, -⟩ := S
  obtain ⟨-, ⟨cellB, hcB, hoB, hclB⟩, hPc⟩ := hp
  intro T hT X
  obtain ⟨v, vm₁, ⟨U', l2, c2, s2⟩, hW₁, X', ⟨g', mk, t, L, e1, e2, hq, h1, hL, h2, h3⟩, st⟩ := vx_callVW X hx (C := C) (hh := hh) (bytes := bytes) (maxL := maxL) (ret := ret) ho hl hin hse hcode hy hK (by rw [hT]; exact hcB) hoB hclB hg (hsize.trans hml.symm) (argsL := As) (rest := rest) (fun sig h => hn.trans (hlen sig h)) hstack hW (by rw [hb]; exact hdg)
    (fun vm₁ hW₁ => ⟨hf.1, hf.2, hPc (T.setVm vm₁) hT hW₁⟩)
  dsimp only [Pt.U, Pt.locs, Pt.cells, Pt.slots] at X' e1 e2 h1 h2 h3 st
  subst h1; subst h2; subst h3
  exact ⟨v, (T.setVm vm₁).calling g' mk (Value.ref b :: As).toArray, t, U', L, hT, X', hL, e1, e2, hq, st⟩
section
variable {y : MethodName} {bytes cc : ByteArray} {maxL nL mc ms n index : Nat} {ret : Option FieldType} {ws : List Cond} {rm : Room} {Pc : Array Value → State → Prop} {Qc : Array Value → State → Outcome → State → Prop} {XC : String → State → State → Prop} {free : Addr → Prop} {Ts : List Cond} {own C : String} {b : Addr} {As rest : List Value} {g : JFrame}
theorem vx_runVX {hh : List (Nat × Nat × Nat × Nat)} (S : CallFix p m c cc nL s args Ts own) (hM : vx_Met l y ws rm Pc Qc XC mc ms free) (cw : vx_CVW R s args own C index y bytes maxL ret hh ws rm mc ms n) (hp : PreV s H C b Pc As)
    (hg : g.method = m) (hn : As.length = n) (hsize : g.locals.size = nL) (hstack : g.stack = As.reverse ++ .ref b :: rest) (hW : 2 * g.monitorRoom + (rest.map fun v => v.category).sum ≤ 8) (hdg : decode cc g.pc = .ok (.invokevirtual index, 3)) (hf : cells + mc ≤ R.cells ∧ slots + ms ≤ R.slots) :
    vx_Run p l e R s m args below meth c H locs cells slots mc ms g rest (Qc (Value.ref b :: As).toArray) XC free := by
  obtain ⟨⟨hrc, hrs, hfr, hlo, hws, hcw⟩, hcode, hini, hy, hlen, hl, hin, hse⟩ := cw
  have hK : vx_Back l R p e below s args y 3 8 (PreOf R mc ms Pc) (PostOf Qc mc ms free) (vx_Post XC mc ms free) := vx_backW (hh := hh) (bytes := bytes) (maxL := maxL) (ret := ret) hM hp.1 hrc hrs hfr hlo hws hcw (fun a' U hW => word_at hW (Or.inl (by first | rfl | simp [Cond.onTables, Cond.keeps, Cond.steady])) hini)
  obtain ⟨hx, hb, hml, ho, -⟩ := S
  obtain ⟨-, ⟨cellB, hcB, hoB, hclB⟩, hPc⟩ := hp
  intro T hT X
  rcases vx_callVX X hx (C := C) (hh := hh) (bytes := bytes) (maxL := maxL) (ret := ret) ho hl hin hse hcode hy hK (by rw [hT]; exact hcB) hoB hclB hg (hsize.trans hml.symm) (argsL := As) (rest := rest) (fun sig h => hn.trans (hlen sig h)) hstack hW (by rw [hb]; exact hdg)
    (fun vm₁ hW₁ => ⟨hf.1, hf.2, hPc (T.setVm vm₁) hT hW₁⟩) with ⟨v, vm₁, ⟨U', l2, c2, s2⟩, hW₁, X', ⟨g', mk, t, L, e1, e2, hq, h1, hL, h2, h3⟩, st⟩ | ⟨q, vm₁, ⟨U', l2, c2, s2⟩, hW₁, X', ⟨g', mk, t, L, E, ce, e1, e2, hq, hce, hcv, hcl, h1, hL, h2, h3⟩, st⟩
  · dsimp only [Pt.U, Pt.locs, Pt.cells, Pt.slots] at X' e1 e2 h1 h2 h3 st
    subst h1; subst h2; subst h3
    exact Or.inl ⟨v, (T.setVm vm₁).calling g' mk (Value.ref b :: As).toArray, t, U', L, hT, X', hL, e1, e2, hq, st⟩
  · dsimp only [Pt.U, Pt.locs, Pt.cells, Pt.slots] at X' e1 e2 h1 h2 h3 st hcl
    subst h1; subst h2; subst h3
    exact Or.inr ⟨q, (T.setVm vm₁).calling g' mk (Value.ref b :: As).toArray, t, U', L, E, ce, hT, X', hL, e1, e2, hq, hce, hcv, vx_cls hW₁ hcl, st⟩
theorem vx_runSX {hh : List (Nat × Nat × Nat × Nat)} (S : CallFix p m c cc nL s args Ts own) (hM : vx_Met l y ws rm Pc Qc XC mc ms free) (cw : vx_CSW R s args own index y bytes maxL ret hh ws rm mc ms n) (hp : PreS s H Pc As)
    (hg : g.method = m) (hn : As.length = n) (hsize : g.locals.size = nL) (hstack : g.stack = As.reverse ++ rest) (hW : 2 * g.monitorRoom + (rest.map fun v => v.category).sum ≤ 8) (hdg : decode cc g.pc = .ok (.invokestatic index, 3)) (hf : cells + mc ≤ R.cells ∧ slots + ms ≤ R.slots) :
    vx_Run p l e R s m args below meth c H locs cells slots mc ms g rest (Qc As.toArray) XC free := by
  obtain ⟨⟨hrc, hrs, hfr, hlo, hws, hcw⟩, hcode, hini, hy, hlen, hl, hstt⟩ := cw
  have hK : vx_Back l R p e below s args y 3 8 (PreOf R mc ms Pc) (PostOf Qc mc ms free) (vx_Post XC mc ms free) := vx_backW (hh := hh) (bytes := bytes) (maxL := maxL) (ret := ret) hM hp.1 hrc hrs hfr hlo hws hcw (fun a' U hW => word_at hW (Or.inl (by first | rfl | simp [Cond.onTables, Cond.keeps, Cond.steady])) hini)
  obtain ⟨hx, hb, hml, ho, -⟩ := S
  intro T hT X
  rcases vx_callSX X hx (hh := hh) (bytes := bytes) (maxL := maxL) (ret := ret) ho hl hstt hini hcode hy hK hg (hsize.trans hml.symm) (argsL := As) (rest := rest) (fun sig h => hn.trans (hlen sig h)) hstack hW (by rw [hb]; exact hdg)
    (fun vm₁ hW₁ => ⟨hf.1, hf.2, hp.2 (T.setVm vm₁) hT hW₁⟩) with ⟨v, vm₁, ⟨U', l2, c2, s2⟩, hW₁, X', ⟨g', mk, t, L, e1, e2, hq, h1, hL, h2, h3⟩, st⟩ | ⟨q, vm₁, ⟨U', l2, c2, s2⟩, hW₁, X', ⟨g', mk, t, L, E, ce, e1, e2, hq, hce, hcv, hcl, h1, hL, h2, h3⟩, st⟩
  · dsimp only [Pt.U, Pt.locs, Pt.cells, Pt.slots] at X' e1 e2 h1 h2 h3 st
    subst h1; subst h2; subst h3
    exact Or.inl ⟨v, (T.setVm vm₁).calling g' mk As.toArray, t, U', L, hT, X', hL, e1, e2, hq, st⟩
  · dsimp only [Pt.U, Pt.locs, Pt.cells, Pt.slots] at X' e1 e2 h1 h2 h3 st hcl
    subst h1; subst h2; subst h3
    exact Or.inr ⟨q, (T.setVm vm₁).calling g' mk As.toArray, t, U', L, E, ce, hT, X', hL, e1, e2, hq, hce, hcv, vx_cls hW₁ hcl, st⟩
end
end VXH
theorem vx_ofWH {l : Launch} {y : MethodName} {ws ws' : List Cond} {rm : Room} {Pc : Array Value → State → Prop} {Qc : Array Value → State → Outcome → State → Prop} {XC : String → State → State → Prop} {mc ms : Nat} {free : Addr → Prop} {cc : ByteArray} {maxL : Nat} {ret : Option FieldType} {hh : List (Nat × Nat × Nat × Nat)}
    (hy : plainName y.cls = true) (hw : ws = Cond.codeWith y cc maxL ret hh :: ws')
    (body : ∀ p e s m args below meth c s₁, BodyLoose p l y (headSpec ws rm) cc maxL ret e s m args below meth c s₁ → c.maxLocals = maxL → Pc args s →
      W p l e (headSpec ws rm).room s m args below meth c s.heap [] 0 0 (vx_MQ below Qc XC args s mc ms free) (entryFrame m args maxL)) : vx_Met l y ws rm Pc Qc XC mc ms free := by
  refine MetFree.of_bodyS (code := cc) (maxLocals := maxL) (ret := ret) hy ?_ ?_
  · intro args s m h hn
    obtain ⟨m9, meth, c, hn9, h1, h2, h3, h4, -, h5, h6, -⟩ := Cond.codeWith_spec (atoms_spec (ws := ws) h _ (by rw [hw]; exact List.mem_cons_self))
    cases hn.symm.trans hn9
    exact ⟨meth, c, h1, h2, h3, h4, h5, h6⟩
  · intro p e s m args below meth c s₁ B hml hP _
    have hh0 : s₁.heap = s.heap := by rw [B.state]; rfl
    obtain ⟨t, a1, o, b1, b2, b3⟩ := body p e s m args below meth c s₁ B hml hP s₁ hh0 (Stand.of_body B)
    exact ⟨t, o, a1, b1, b2, b3⟩
/-! ===== END ===== -/

/-! ===== BEGIN what the machine throws by itself, no traces kept ===== -/
section VXM
set_option maxHeartbeats 1000000 in
/-- the machine throws cls with the message text, no traces kept: from its note over the frame g to 'throwing' over the same frame (follows the proofs of Stand.vmThrowsMessage, Shelf/KitTracedVmS.lean, and Stand.throwsMessageColdBareV, StandMessageColdV.lean, without the step out of the frame) -/
theorem vx_vmAt {p : Program} {l : Launch} {e : Env} {R : Room} {s : State} {m₀ : MethodId} {args : Array Value} {below : List Frame} {meth : Method} {c : Code} {W : State} {locs : List Loc} {cells slots : Nat}
    (X : Stand p l e R s m₀ args below meth c W locs cells slots) (hexec : p.tables.exec = Jvm.exec) (htr : e.platform.stackTraces = false) {cls : String} {names : List String} {text : String}
    (hcls : Bundle.fit cls = true) (hnames : ∀ n ∈ names, Bundle.fit n = true) (hsoe : (cls == "java/lang/StackOverflowError") = false) (hoom : (cls == "java/lang/OutOfMemoryError") = false)
    (h : ∀ a ∈ Bundle.messageArmAtoms cls names, a.before args s = true)
    (hlocs : ∀ x ∈ locs, ∀ cell, s.heap[x.base]? = some cell → cell.vm.isStatics = false)
    (htext : (text == notModelled) = false) (hlimit : ¬ (stringBytes (stringToUtf16 text)).size > e.platform.arrayLengthLimit) (hheap : ¬ (stringBytes (stringToUtf16 text)).size * componentBytes .byte > e.platform.maxHeapBytes)
    {g : JFrame} (hg : g.method = m₀) (hsize : g.locals.size = c.maxLocals)
    (hRframes : names.length + 4 < R.frames) (hRlocals : 2 * g.monitorRoom + (g.stack.map fun v => v.category).sum + 10240 ≤ R.locals) (hshort : 13 * names.length + 55 ≤ 10240)
    (hRcells : cells + 3 ≤ R.cells) (hRslots : slots + ((stringBytes (stringToUtf16 text)).size + 4 + 6) ≤ R.slots) (hlocks : meth.locks = false) :
    ∃ (S : State) (q : Addr) (ce : Cell), (∀ target, Steps p.tables e below ((S.setTop g).pushFrame (.throwing q)) target → Steps p.tables e below ((W.setTop g).pushFrame (.throwNew cls (some text) none)) target) ∧
      Stand p l e R s m₀ args below meth c S locs (cells + 3) (slots + ((stringBytes (stringToUtf16 text)).size + 4 + 6)) ∧ S.heap[q]? = some ce ∧ s.vm.findClass cls = some ce.cls ∧ ce.vm = .none := by
  have howns : e.platform.frameOwnsMonitors = true := by rw [X.admits.platform]
  have hfin : e.platform.finalization = false := by rw [X.admits.platform]
  have hpl : e.platform.magicAccessors = ({} : Platform).magicAccessors := by rw [X.admits.platform]
  have a : ∀ x, x ∈ Bundle.messageArmAtoms cls names → x.holds args s none s [] = true := fun x hx => h x hx
  obtain ⟨T, Z0, L, -, Y⟩ := ThrowableC.of_atoms (args := args) howns hfin hpl (fun x hx => h x (by simp [Bundle.messageArmAtoms, hx]))
  obtain ⟨Z, M, LZ, LM, hnZ⟩ := Init0T.ofS_atoms (args := args) hpl L Y (fun x hx => h x (by simp [Bundle.messageArmAtoms, hx]))
  obtain ⟨P1, Ps, hlen, L1, hL, hP1m, hlink1, hlink⟩ := Bundle.chainS (args := args) hpl hnZ names cls hcls hnames (fun x hx => h x (by simp [Bundle.messageArmAtoms, hx]))
  obtain ⟨Zs, LZs, hn4, hfitv, hfitc⟩ := StringT.of_atoms (args := args) (fun x hx => h x (by simp [Bundle.messageArmAtoms, hx]))
  have hfound : s.vm.findClass cls = some P1.m.cls := findClass_of_methodNamed hP1m
  obtain ⟨c1, kX, hc1, hk, hord, -, -, hn6⟩ := Cond.instantiable_spec (a (.instantiable cls 6) (by simp [Bundle.messageArmAtoms]))
  cases Option.some.inj (hc1.symm.trans hfound)
  have hinit := Cond.initialized_spec hfound hk (a (.initialized cls) (by simp [Bundle.messageArmAtoms]))
  have hctor : kX.findMethod "<init>" "(Ljava/lang/String;)V" = some P1.m.idx := findMethod_of_methodNamed hP1m hk
  have hsel0 : selectMethod e.platform s.vm P1.m.cls T.fill0 = .method T.fill0 := by
    obtain ⟨c2, r2, m2, q1, q2, q3, q4, -⟩ := Cond.selects_spec (a (.selects cls Bundle.tFill0 Bundle.tFill0) (by simp [Bundle.messageArmAtoms]))
    cases Option.some.inj (q1.symm.trans hfound)
    cases Option.some.inj (q2.symm.trans (State.methodFound?_of_named Y.fill0 (by decide)))
    cases Option.some.inj (q3.symm.trans Y.fill0)
    rw [Launch.admits_selectMethod X.admits]; exact q4
  have hselF : selectMethod e.platform s.vm P1.m.cls T.fill = .method T.fill := by
    obtain ⟨c2, r2, m2, q1, q2, q3, q4, -⟩ := Cond.selects_spec (a (.selects cls Bundle.tFill Bundle.tFill) (by simp [Bundle.messageArmAtoms]))
    cases Option.some.inj (q1.symm.trans hfound)
    cases Option.some.inj (q2.symm.trans (State.methodFound?_of_named Y.fill (by decide)))
    cases Option.some.inj (q3.symm.trans Y.fill)
    rw [Launch.admits_selectMethod X.admits]; exact q4
  obtain ⟨cellS0, hcS0, hiss⟩ := Y.statics
  obtain ⟨u0, hu0⟩ := Cond.staticRefV Y.unassigned L.unassignedStatic L.statics hcS0 hiss (a (.isRef (.static Bundle.tN "UNASSIGNED_STACK" Bundle.steD)) (by simp [Bundle.messageArmAtoms]))
  obtain ⟨sen, hsen⟩ := Cond.staticRefV Y.sentinel L.sentinelStatic L.statics hcS0 hiss (a (.isRef (.static Bundle.tN "SUPPRESSED_SENTINEL" Bundle.listD)) (by simp [Bundle.messageArmAtoms]))
  obtain ⟨ci198, i198, fB, hk198, hg198, ha198, hsB, -, hnB, htB, hffB⟩ := Cond.ownField (t := .object "java/lang/Object") Y.found L.cls (by decide +kernel) (a (.fieldLink Bundle.tN 198 Bundle.tN "backtrace" "Ljava/lang/Object;") (by simp [Bundle.messageArmAtoms])) (a (.lays Bundle.tN Bundle.tN "backtrace" "Ljava/lang/Object;") (by simp [Bundle.messageArmAtoms])) e.platform hpl
  obtain ⟨cellS, hcS', heS, -, hkeep⟩ := X.same.2.2.2.2.2 T.aS cellS0 hcS0
  have hcellS : W.heap[T.aS]? = some cellS := hcS'
  have hout' : ∀ i, (⟨T.aS, i⟩ : Loc) ∉ locs := fun i hmem => by
    have := hlocs _ hmem cellS0 hcS0
    rw [hiss] at this; cases this
  have hknownS : cellS.vm ≠ .unknown := by
    rw [heS]; intro hu
    rw [show cellS0.vm = .unknown from hu] at hiss
    cases hiss
  have hvU : cellS.slots[T.fUnassigned.slot]? = some u0.v := by rw [hkeep _ (hout' _)]; exact hu0
  have hvSen : cellS.slots[T.fSentinel.slot]? = some sen.v := by rw [hkeep _ (hout' _)]; exact hsen
  obtain ⟨iM, hffM⟩ := Y.msg
  obtain ⟨tyC, dC, hdC, hdnC⟩ := Cond.laysAt hfound hk Y.cause (a (.lays cls Bundle.tN "cause" "Ljava/lang/Throwable;") (by simp [Bundle.messageArmAtoms]))
  obtain ⟨tyS, dS, hdS, hdnS⟩ := Cond.laysAt hfound hk Y.stack (a (.lays cls Bundle.tN "stackTrace" Bundle.steD) (by simp [Bundle.messageArmAtoms]))
  obtain ⟨tyP, dP, hdP, hdnP⟩ := Cond.laysAt hfound hk Y.supp (a (.lays cls Bundle.tN "suppressedExceptions" Bundle.listD) (by simp [Bundle.messageArmAtoms]))
  obtain ⟨tyM, dM, hdM, hdnM⟩ := Cond.laysAt hfound hk hffM (a (.lays cls Bundle.tN "detailMessage" "Ljava/lang/String;") (by simp [Bundle.messageArmAtoms]))
  obtain ⟨tyB, dB, hdB, hdnB⟩ := Cond.laysAt hfound hk hffB (a (.lays cls Bundle.tN "backtrace" "Ljava/lang/Object;") (by simp [Bundle.messageArmAtoms]))
  have bC := Cond.laysApart hdB hdC hdnB hdnC (by rw [hnB, Y.causeName]; decide)
  have bS := Cond.laysApart hdB hdS hdnB hdnS (by rw [hnB, Y.stackName]; decide)
  have bP := Cond.laysApart hdB hdP hdnB hdnP (by rw [hnB, Y.suppName]; decide)
  have hbk : ((preparedCellV T.toThrowableT (freshCell P1.m.cls kX) (W.heap.size + 2) u0 sen).withEntry W.cur).slots[fB.slot]? = some .null := by
    have := fresh_default (c := P1.m.cls) tyB
    rw [htB] at this
    simpa [preparedCellV, Cell.setSlot, Cell.withEntry, Array.getElem?_setIfInBounds, bC, bS, bP, bC.symm, bS.symm, bP.symm, defaultValue] using this
  have tkC := Takes.of_laid (v := .ref (W.heap.size + 2)) hk hord tyC (by rw [Y.causeType]; rfl)
  have tkS := Takes.of_laid (v := u0.v) hk hord tyS (by rw [Y.stackType]; exact fits_refV_array _ u0)
  have tkP := Takes.of_laid (v := sen.v) hk hord tyP (by rw [Y.suppType]; exact fits_refV_object _ sen)
  have tkM := Takes.of_laid (v := .ref (W.heap.size + 1)) hk hord tyM (by rw [Y.msgType]; rfl)
  have hskip : SkipFacts T e.platform s (fun u => u) u0 ((preparedCellV T.toThrowableT (freshCell P1.m.cls kX) (W.heap.size + 2) u0 sen).withEntry W.cur) := ⟨{ ci198 := ci198, i198 := i198, fBack := fB }, ⟨hk198, hg198, ha198, hsB⟩, hbk, fun _ _ => rfl⟩
  have h0 : At W g.method c below := by rw [hg]; exact X.here
  obtain ⟨hbeyond, hfreeW⟩ := X.vmMayThrow hsize (.throwNew cls (some text) none) (fun f hf => by cases hf) rfl hRlocals
  have hfr' : W.frames.length + Ps.length + 4 < (e.platform.stackLimits W.me).1 := by have := X.framesAbove hRframes; omega
  have hwd' : (stackUse (.java g :: W.frames.tail)).2 + 13 * Ps.length + 55 ≤ (e.platform.stackLimits W.me).2 := by have := X.stackAbove hsize (K := 13 * Ps.length + 55) (by omega); omega
  have hslots : W.slotsUsed + (stringBytes (stringToUtf16 text)).size + Zs.kS.instanceTypes.size + kX.instanceTypes.size ≤ e.platform.maxSlots := by
    have := X.slotsAbove hRslots
    rw [hn4, hn6]
    omega
  obtain ⟨vm', hW', st⟩ := Steps.vmThrowsMessageColdByV p (s₀ := s) (S := W) (g := g) h0 hexec T L Z LZ M LM X.warmed (t := W.cur) rfl Zs LZs P1 L1 Ps hL hlink1 hlink hsoe hoom hfound hk hinit hord hctor
    (Launch.admits_hotImplicitExceptions X.admits) hbeyond hfreeW htext hlimit hheap (X.cellsAbove hRcells) hslots (hfitv _) (hfitc _)
    (Nn := fun u => u) heapOnly_id (fun _ _ => rfl) (fun _ => rfl) (fun u x y => setCell_twice _ _ _ _) (fun _ => Nat.le_refl _) (cN := ((preparedCellV T.toThrowableT (freshCell P1.m.cls kX) (W.heap.size + 2) u0 sen).withEntry W.cur))
    hsel0 hcellS hknownS hvU tkS (fun _ hu => hu) (fun _ hu => hu) rfl rfl rfl (by simp [preparedCellV, Cell.setSlot, Cell.withEntry]) hskip (fun _ _ hA hW _ hroom _ hrest => L.nativeOff p htr hA hW hroom hrest) hselF hvSen tkC tkP tkM Y.objLocals rfl hfr' hwd'
  rw [plainBareV_eq T.toThrowableT (W.heap.size + 2) u0 sen (.ref (W.heap.size + 1)) W.cur rfl rfl] at st
  obtain ⟨-, -, w3, w4, -, -, -⟩ := withThrown_facts e.platform W Zs text P1.m.cls kX
  have X3 := ((X.pushed (bytesOf Zs.cB (stringToUtf16 text))).pushed (stringAt Zs.cS Zs.kS Zs.fv Zs.fc (stringToUtf16 text) W.heap.size)).pushed (freshCell P1.m.cls kX)
  rw [← withString_eq] at X3
  have X4 := X3.noted hW'
  have ha : (W.heap.size + 2) < ((withThrown W Zs text P1.m.cls kX).setVm vm').heap.size := by show _ < (withThrown W Zs text P1.m.cls kX).heap.size; rw [w3]; omega
  have hcell : ((withThrown W Zs text P1.m.cls kX).setVm vm').heap[(W.heap.size + 2)]? = some (freshCell P1.m.cls kX) := w4
  have X5 := ((((X4.stored hcell T.fCause.slot (.ref (W.heap.size + 2))).storedAgain ha T.fStack.slot u0.v).storedAgain ha T.fSupp.slot sen.v).storedAgain ha T.fStack.slot u0.v).storedAgain ha T.fMsg.slot (.ref (W.heap.size + 1))
  obtain ⟨g₁, hfrM⟩ := X5.frames_eq
  have hU : ((((withThrown W Zs text P1.m.cls kX).setVm vm').setCell (W.heap.size + 2) (plainBareV T.toThrowableT (freshCell P1.m.cls kX) (W.heap.size + 2) u0 sen (.ref (W.heap.size + 1)))).setTop g).pushFrame (.throwing (W.heap.size + 2)) = (((withThrown W Zs text P1.m.cls kX).setVm vm').setCell (W.heap.size + 2) (plainBareV T.toThrowableT (freshCell P1.m.cls kX) (W.heap.size + 2) u0 sen (.ref (W.heap.size + 1)))).setFrames (.throwing (W.heap.size + 2) :: .java g :: below) := by
    rw [State.pushFrame, State.frames_setTop _ hfrM, State.setTop_of_frames _ hfrM, State.setFrames_setFrames]
  have b1 : (bytesOf Zs.cB (stringToUtf16 text)).slots.size = (stringBytes (stringToUtf16 text)).size := by
    rw [(Cell.writeAll_facts _ _).2.2]; simp [bytes0]
  have b2 : (stringAt Zs.cS Zs.kS Zs.fv Zs.fc (stringToUtf16 text) W.heap.size).slots.size = 4 := by simp [string0, Cell.setSlot, hn4]
  have b3 : (freshCell P1.m.cls kX).slots.size = 6 := by simp [hn6]
  rw [b1, b2, b3] at X5
  have e9 : slots + (stringBytes (stringToUtf16 text)).size + 4 + 6 = slots + ((stringBytes (stringToUtf16 text)).size + 4 + 6) := by omega
  rw [e9] at X5
  simp only [List.append_assoc, List.cons_append, List.nil_append] at X5
  refine ⟨((withThrown W Zs text P1.m.cls kX).setVm vm').setCell (W.heap.size + 2) (plainBareV T.toThrowableT (freshCell P1.m.cls kX) (W.heap.size + 2) u0 sen (.ref (W.heap.size + 1))), W.heap.size + 2, _, fun target ht => st _ (by rw [X.tail, ← hU]; exact ht),
    X5.forget (fun y hy => ?_), heapAt_setCell_self _ ha, hfound, rfl⟩
  simp only [List.mem_cons, List.not_mem_nil, or_false] at hy
  have hge : s.heap.size ≤ W.heap.size := X.same.2.1
  rcases hy with rfl | rfl | rfl | rfl | rfl <;> exact Nat.le_trans hge (Nat.le_add_right _ 2)
set_option maxHeartbeats 1000000 in
/-- the machine throws NullPointerException, no traces kept: from its note over the frame g to 'throwing' over the same frame (follows the proof of Stand.vmThrowsNpe, Shelf42/KT2.lean; throwsNpeColdBareVAt, Shelf42/NT91.lean, called) -/
theorem vx_npeAt {p : Program} {l : Launch} {e : Env} {R : Room} {s : State} {m₀ : MethodId} {args : Array Value} {below : List Frame} {meth : Method} {c : Code} {W : State} {locs : List Loc} {cells slots : Nat}
    (X : Stand p l e R s m₀ args below meth c W locs cells slots) (hexec : p.tables.exec = Jvm.exec) (htr : e.platform.stackTraces = false) {n : Nat}
    (h : ∀ a ∈ Bundle.npeArmAtoms n, a.before args s = true)
    (hlocs : ∀ x ∈ locs, ∀ cell, s.heap[x.base]? = some cell → cell.vm.isStatics = false)
    {g : JFrame} (hg : g.method = m₀) (hsize : g.locals.size = c.maxLocals)
    (hRframes : 7 < R.frames) (hRlocals : 2 * g.monitorRoom + (g.stack.map fun v => v.category).sum + 10240 ≤ R.locals)
    (hRcells : cells + 1 ≤ R.cells) (hRslots : slots + n ≤ R.slots) (hlocks : meth.locks = false) :
    ∃ (S : State) (q : Addr) (ce : Cell), (∀ target, Steps p.tables e below ((S.setTop g).pushFrame (.throwing q)) target → Steps p.tables e below ((W.setTop g).pushFrame (.throwNew "java/lang/NullPointerException" none none)) target) ∧
      Stand p l e R s m₀ args below meth c S locs (cells + 1) (slots + n) ∧ S.heap[q]? = some ce ∧ s.vm.findClass "java/lang/NullPointerException" = some ce.cls ∧ ce.vm = .none := by
  have howns : e.platform.frameOwnsMonitors = true := by rw [X.admits.platform]
  have hfin : e.platform.finalization = false := by rw [X.admits.platform]
  have hpl : e.platform.magicAccessors = ({} : Platform).magicAccessors := by rw [X.admits.platform]
  have hpl2 : e.platform.arrayCloneIsPublic = true := by rw [X.admits.platform]
  have a' : ∀ x, x ∈ Bundle.npeArmAtoms n → x.holds args s none s [] = true := fun x hx => h x hx
  obtain ⟨T, Z, L, LZ, Y⟩ := ThrowableC.of_atoms (args := args) howns hfin hpl (fun x hx => h x (by simp [Bundle.npeArmAtoms, hx]))
  obtain ⟨N, LN, hcN, hnNF, hordN, hffS⟩ := NpeC.of_atoms (args := args) hpl hpl2 L Y (fun x hx => h x (by simp [Bundle.npeArmAtoms, hx]))
  obtain ⟨P1, L1, hP1m, hP1s⟩ := PassC.of_atoms (args := args) (s := s) hpl (X := Bundle.nN) (Y := Bundle.rN) (by decide) (by decide) LibCode.NullPointerException.Init0.at_0 LibCode.NullPointerException.Init0.at_1 LibCode.NullPointerException.Init0.at_4 (fun x hx => h x (by simp [Bundle.npeArmAtoms, hx]))
  obtain ⟨PR, LR, hPRm, hPRs⟩ := PassC.of_atoms (args := args) (s := s) hpl (X := Bundle.rN) (Y := Bundle.eN) (by decide) (by decide) LibCode.RuntimeException.Init0.at_0 LibCode.RuntimeException.Init0.at_1 LibCode.RuntimeException.Init0.at_4 (fun x hx => h x (by simp [Bundle.npeArmAtoms, hx]))
  obtain ⟨PE, LEx, hPEm, hPEs⟩ := PassC.of_atoms (args := args) (s := s) hpl (X := Bundle.eN) (Y := Bundle.tN) (by decide) (by decide) LibCode.Exception.Init0.at_0 LibCode.Exception.Init0.at_1 LibCode.Exception.Init0.at_4 (fun x hx => h x (by simp [Bundle.npeArmAtoms, hx]))
  have hfound : s.vm.findClass Bundle.nN = some P1.m.cls := findClass_of_methodNamed hP1m
  have ecls : N.cN = P1.m.cls := Option.some.inj (hcN.symm.trans hfound)
  have hk : s.vm.classes[P1.m.cls]? = some N.kN := by rw [← ecls]; exact LN.cls
  have hinit := Cond.initialized_spec hfound hk (a' (.initialized Bundle.nN) (by simp [Bundle.npeArmAtoms]))
  have hctor : N.kN.findMethod "<init>" "()V" = some P1.m.idx := findMethod_of_methodNamed hP1m hk
  obtain ⟨c1, k1, hc1, hk1, -, -, -, hn⟩ := Cond.instantiable_spec (a' (.instantiable Bundle.nN n) (by simp [Bundle.npeArmAtoms]))
  cases Option.some.inj (hc1.symm.trans hfound)
  cases Option.some.inj (hk1.symm.trans hk)
  have hfsz : (freshCell P1.m.cls N.kN).slots.size = n := by simp [hn]
  have hlink1 : P1.sup = PR.m := Option.some.inj (hP1s.symm.trans hPRm)
  have hlinkR : PR.sup = PE.m := Option.some.inj (hPRs.symm.trans hPEm)
  have hlinkE : PE.sup = Z.m T.toThrowableT := Option.some.inj (hPEs.symm.trans Y.init0)
  have hLs : ∀ P, P ∈ [PR, PE] → P.Links0 e.platform s := fun P hP => by
    simp only [List.mem_cons, List.not_mem_nil, or_false] at hP
    rcases hP with rfl | rfl
    · exact LR
    · exact LEx
  have hsel0 : selectMethod e.platform s.vm P1.m.cls T.fill0 = .method T.fill0 := by
    obtain ⟨c2, r2, m2, q1, q2, q3, q4, -⟩ := Cond.selects_spec (a' (.selects Bundle.nN Bundle.tFill0 Bundle.tFill0) (by simp [Bundle.npeArmAtoms]))
    cases Option.some.inj (q1.symm.trans hfound)
    cases Option.some.inj (q2.symm.trans (State.methodFound?_of_named Y.fill0 (by decide)))
    cases Option.some.inj (q3.symm.trans Y.fill0)
    rw [Launch.admits_selectMethod X.admits]; exact q4
  have hselF : selectMethod e.platform s.vm P1.m.cls T.fill = .method N.fill := by
    obtain ⟨c2, r2, m2, q1, q2, q3, q4, -⟩ := Cond.selects_spec (a' (.selects Bundle.nN Bundle.tFill Bundle.nFill) (by simp [Bundle.npeArmAtoms]))
    cases Option.some.inj (q1.symm.trans hfound)
    cases Option.some.inj (q2.symm.trans (State.methodFound?_of_named Y.fill (by decide)))
    cases Option.some.inj (q3.symm.trans hnNF)
    rw [Launch.admits_selectMethod X.admits]; exact q4
  obtain ⟨cellS0, hcS0, hiss⟩ := Y.statics
  obtain ⟨u0, hu0⟩ := Cond.staticRefV Y.unassigned L.unassignedStatic L.statics hcS0 hiss (a' (.isRef (.static Bundle.tN "UNASSIGNED_STACK" Bundle.steD)) (by simp [Bundle.npeArmAtoms]))
  obtain ⟨sen, hsen⟩ := Cond.staticRefV Y.sentinel L.sentinelStatic L.statics hcS0 hiss (a' (.isRef (.static Bundle.tN "SUPPRESSED_SENTINEL" Bundle.listD)) (by simp [Bundle.npeArmAtoms]))
  obtain ⟨ci198, i198, fB, hk198, hg198, ha198, hsB, -, hnB, htB, hffB⟩ := Cond.ownField (t := .object "java/lang/Object") Y.found L.cls (by decide +kernel) (a' (.fieldLink Bundle.tN 198 Bundle.tN "backtrace" Bundle.objD) (by simp [Bundle.npeArmAtoms])) (a' (.lays Bundle.tN Bundle.tN "backtrace" Bundle.objD) (by simp [Bundle.npeArmAtoms])) e.platform hpl
  obtain ⟨cellS, hcS', heS, -, hkeep⟩ := X.same.2.2.2.2.2 T.aS cellS0 hcS0
  have hcellS : W.heap[T.aS]? = some cellS := hcS'
  have hout' : ∀ i, (⟨T.aS, i⟩ : Loc) ∉ locs := fun i hmem => by
    have := hlocs _ hmem cellS0 hcS0
    rw [hiss] at this; cases this
  have hknownS : cellS.vm ≠ .unknown := by
    rw [heS]; intro hu
    rw [show cellS0.vm = .unknown from hu] at hiss
    cases hiss
  have hvU : cellS.slots[T.fUnassigned.slot]? = some u0.v := by rw [hkeep _ (hout' _)]; exact hu0
  have hvSen : cellS.slots[T.fSentinel.slot]? = some sen.v := by rw [hkeep _ (hout' _)]; exact hsen
  obtain ⟨tyC, dC, hdC, hdnC⟩ := Cond.laysAt hfound hk Y.cause (a' (.lays Bundle.nN Bundle.tN "cause" "Ljava/lang/Throwable;") (by simp [Bundle.npeArmAtoms]))
  obtain ⟨tyS, dS, hdS, hdnS⟩ := Cond.laysAt hfound hk Y.stack (a' (.lays Bundle.nN Bundle.tN "stackTrace" Bundle.steD) (by simp [Bundle.npeArmAtoms]))
  obtain ⟨tyP, dP, hdP, hdnP⟩ := Cond.laysAt hfound hk Y.supp (a' (.lays Bundle.nN Bundle.tN "suppressedExceptions" Bundle.listD) (by simp [Bundle.npeArmAtoms]))
  obtain ⟨tyX, dX, hdX, hdnX⟩ := Cond.laysAt hfound hk hffS (a' (.lays Bundle.nN Bundle.nN "extendedMessageState" "I") (by simp [Bundle.npeArmAtoms, Bundle.npeAtoms]))
  obtain ⟨hnX, htX⟩ := State.fieldFound?_type hffS (t := .int) (by decide +kernel)
  have xC := Cond.laysApart hdC hdX hdnC hdnX (by rw [hnX, Y.causeName]; decide)
  have xS := Cond.laysApart hdS hdX hdnS hdnX (by rw [hnX, Y.stackName]; decide)
  have xP := Cond.laysApart hdP hdX hdnP hdnX (by rw [hnX, Y.suppName]; decide)
  have hv0 : (freshCell P1.m.cls N.kN).slots[N.fState.slot]? = some (.int 0) := by
    have := fresh_default (c := P1.m.cls) tyX
    rw [htX] at this; exact this
  obtain ⟨tyB, dB, hdB, hdnB⟩ := Cond.laysAt hfound hk hffB (a' (.lays Bundle.nN Bundle.tN "backtrace" Bundle.objD) (by simp [Bundle.npeArmAtoms]))
  have bC := Cond.laysApart hdB hdC hdnB hdnC (by rw [hnB, Y.causeName]; decide)
  have bS := Cond.laysApart hdB hdS hdnB hdnS (by rw [hnB, Y.stackName]; decide)
  have bP := Cond.laysApart hdB hdP hdnB hdnP (by rw [hnB, Y.suppName]; decide)
  have bX := Cond.laysApart hdB hdX hdnB hdnX (by rw [hnB, hnX]; decide)
  have hbk : ((npeCell N.toNpeT (preparedCellV T.toThrowableT (freshCell P1.m.cls N.kN) W.heap.size u0 sen) W.cur).withEntry W.cur).slots[fB.slot]? = some .null := by
    have := fresh_default (c := P1.m.cls) tyB
    rw [htB] at this
    simpa [npeCell, preparedCellV, Cell.setSlot, Cell.withEntry, Array.getElem?_setIfInBounds, bC, bS, bP, bX, bC.symm, bS.symm, bP.symm, bX.symm, defaultValue] using this
  have tkC := Takes.of_laid (v := .ref W.heap.size) hk hordN tyC (by rw [Y.causeType]; rfl)
  have tkS := Takes.of_laid (v := u0.v) hk hordN tyS (by rw [Y.stackType]; exact fits_refV_array _ u0)
  have tkP := Takes.of_laid (v := sen.v) hk hordN tyP (by rw [Y.suppType]; exact fits_refV_object _ sen)
  have tkX := Takes.of_laid (v := .int 1) hk hordN tyX (by rw [htX]; rfl)
  have hskip : SkipFacts T e.platform s (fun u => u) u0 ((npeCell N.toNpeT (preparedCellV T.toThrowableT (freshCell P1.m.cls N.kN) W.heap.size u0 sen) W.cur).withEntry W.cur) := ⟨{ ci198 := ci198, i198 := i198, fBack := fB }, ⟨hk198, hg198, ha198, hsB⟩, hbk, fun _ _ => rfl⟩
  obtain ⟨vm', X3, st, -⟩ := X.throwsNpeColdBareVAt hexec hg hsize T L Z LZ N LN P1 L1 [PR, PE] hLs hlink1 ⟨hlinkR, hlinkE, trivial⟩ hfound hk hinit hordN hctor hsel0 hselF hcellS hknownS hvU hvSen
    hv0 xC xS xP tkC tkS tkP tkX Y.objLocals hskip (fun _ _ hA hW _ hroom _ hrest => L.nativeOff p htr hA hW hroom hrest) (by simpa using hRframes) hRlocals (by simp) hRcells (by rw [hn]; exact hRslots)
  have hlt : W.heap.size < ((W.pushCell (freshCell P1.m.cls N.kN)).setVm vm').heap.size := by
    show W.heap.size < (W.pushCell (freshCell P1.m.cls N.kN)).heap.size
    rw [State.heap_size_pushCell]; omega
  rw [hfsz] at X3
  obtain ⟨g₁, hfrM⟩ := X3.frames_eq
  have hU : ((((W.pushCell (freshCell P1.m.cls N.kN)).setVm vm').setCell W.heap.size (npeBareV T.toThrowableT N.toNpeT (freshCell P1.m.cls N.kN) W.heap.size u0 sen)).setTop g).pushFrame (.throwing W.heap.size) = (((W.pushCell (freshCell P1.m.cls N.kN)).setVm vm').setCell W.heap.size (npeBareV T.toThrowableT N.toNpeT (freshCell P1.m.cls N.kN) W.heap.size u0 sen)).setFrames (.throwing W.heap.size :: .java g :: below) := by
    rw [State.pushFrame, State.frames_setTop _ hfrM, State.setTop_of_frames _ hfrM, State.setFrames_setFrames]
  refine ⟨_, W.heap.size, _, fun target ht => st.trans (by rw [← hU]; exact ht), X3.forget (fun y hy => ?_), heapAt_setCell_self _ hlt, hfound, rfl⟩
  simp only [List.mem_cons, List.not_mem_nil, or_false] at hy
  have hge : s.heap.size ≤ W.heap.size := X.same.2.1
  rcases hy with rfl | rfl | rfl | rfl | rfl <;> exact hge
/-- the words of a machine's NullPointerException, but the four that speak of the heap -/
def vx_atN (n : Nat) : List Cond := (Bundle.npeArmAtoms n).filter vx_no
/-- the words of a machine's throw with a message, but the four that speak of the heap -/
def vx_atM (X : String) (names : List String) : List Cond := (Bundle.messageArmAtoms X names).filter vx_no
section
variable {p : Program} {l : Launch} {e : Env} {R : Room} {s : State} {m : MethodId} {args : Array Value} {below : List Frame} {meth : Method} {c : Code} {H : Heap} {locs : List Loc} {cells slots : Nat}
/-- a frame seen from a rebased start, seen from the first start again -/
theorem vx_back9 {T S : State} {R' : Room} {k n : Nat} (X : Stand p l e R s m args below meth c T locs cells slots) (Y : Stand p l e R' ((T.setVm s.vm).setFrames (.invoking m args :: below)) m args below meth c T [] 0 0) (Z : Stand p l e R' ((T.setVm s.vm).setFrames (.invoking m args :: below)) m args below meth c S [] k n) :
    Stand p l e R s m args below meth c S locs (cells + k) (slots + n) := by
  have hW0 : s.WarmedH ((T.setVm s.vm).setFrames (.invoking m args :: below)).vm := State.WarmedH.refl s
  refine { admits := X.admits, cas := X.cas, clock := X.clock, frames := X.frames, room := X.room, hears := X.hears, method := X.method, code := X.code, here := Z.here, tail := Z.tail, warmed := State.WarmedH.trans hW0 Z.warmed, limits := Z.limits.trans (Y.limits.symm.trans X.limits), bytes := Z.bytes.trans (Y.bytes.symm.trans X.bytes), same := ?_ }
  obtain ⟨e1, e2⟩ := Z.same
  rw [State.setFrames_setFrames] at e1
  have h2 : (T.setVm s.vm).sameButNew (S.setVm s.vm) [] k n := ⟨e1, e2⟩
  have h3 := X.same.trans h2
  rw [List.append_nil] at h3
  exact h3
/-- from the machine's note that E is thrown here with this text -/
def vx_Note (p : Program) (l : Launch) (e : Env) (R : Room) (s : State) (m : MethodId) (args : Array Value) (below : List Frame) (meth : Method) (c : Code) (H : Heap) (locs : List Loc) (cells slots : Nat) (Q : State → Prop) (g : JFrame) (E text : String) : Prop :=
  ∀ T : State, T.heap = H → Stand p l e R s m args below meth c T locs cells slots → ∃ t, Steps p.tables e below ((T.setTop g).pushFrame (.throwNew E (some text) none)) t ∧ Q t
theorem vx_vm {pc : Nat} {ls : Array Slot} {rest : List Value} {Q : State → Prop} (hexec : p.tables.exec = Jvm.exec) (hl : l.stackTraces = false) {cls text : String} {names : List String} {nb : Nat} {A : Nat → Prop}
    (hcls : Bundle.fit cls = true) (hnames : ∀ n ∈ names, Bundle.fit n = true) (hsoe : (cls == "java/lang/StackOverflowError") = false) (hoom : (cls == "java/lang/OutOfMemoryError") = false)
    (hat : ∀ w ∈ vx_atM cls names, w.before args s = true) (hgood : ∀ w ∈ vx_atM cls names, vx_ot w = true)
    (hU : vx_Zq Bundle.tN "UNASSIGNED_STACK" Bundle.steD A s s.heap) (hN : vx_Zq Bundle.tN "SUPPRESSED_SENTINEL" Bundle.listD A s s.heap) (hS : va_S A s.heap H locs) (hsize : ls.size = c.maxLocals)
    (htext : (text == notModelled) = false) (hnb : (stringBytes (stringToUtf16 text)).size ≤ nb) (hnb1 : nb ≤ 1000)
    (hRframes : names.length + 4 < R.frames) (hRlocals : (rest.map fun v => v.category).sum + 10240 ≤ R.locals) (hshort : 13 * names.length + 55 ≤ 10240) (hRcells : cells + 3 ≤ R.cells) (hRslots : slots + (nb + 10) ≤ R.slots) (hlocks : meth.locks = false)
    (k : ∀ (H1 : Heap) (q9 : Addr) (ce : Cell), H.size ≤ H1.size → (∀ q : Nat, q < H.size → H1[q]? = H[q]?) → va_S A s.heap H1 locs → H1[q9]? = some ce → ce.vm = .none → s.vm.findClass cls = some ce.cls → vx_W p l e R s m args below meth c H1 locs (cells + 3) (slots + (nb + 10)) Q (F0 m pc ls rest) q9) :
    vx_Note p l e R s m args below meth c H locs cells slots Q (F0 m pc ls rest) cls text := by
  intro T hT X
  have htr : e.platform.stackTraces = false := (show e.platform.stackTraces = l.stackTraces by rw [X.admits.platform]).trans hl
  have Y := vx_rebase X (R' := { frames := R.frames, locals := R.locals, cells := 3, slots := nb + 10 }) (Nat.le_refl _) (Nat.le_refl _) hRcells hRslots
  have hhp : ((T.setVm s.vm).setFrames (.invoking m args :: below)).heap = H := hT
  have hW0 : s.WarmedH ((T.setVm s.vm).setFrames (.invoking m args :: below)).vm := State.WarmedH.refl s
  have hat' : ∀ w ∈ vx_atM cls names, w.before args ((T.setVm s.vm).setFrames (.invoking m args :: below)) = true := fun w hw => vx_ot_at hW0 rfl (hgood w hw) (hat w hw)
  have hU' : vx_Zq Bundle.tN "UNASSIGNED_STACK" Bundle.steD A ((T.setVm s.vm).setFrames (.invoking m args :: below)) ((T.setVm s.vm).setFrames (.invoking m args :: below)).heap := by rw [hhp]; exact vx_Zq.moved hW0.alike (hU.kept hS.2.1)
  have hN' : vx_Zq Bundle.tN "SUPPRESSED_SENTINEL" Bundle.listD A ((T.setVm s.vm).setFrames (.invoking m args :: below)) ((T.setVm s.vm).setFrames (.invoking m args :: below)).heap := by rw [hhp]; exact vx_Zq.moved hW0.alike (hN.kept hS.2.1)
  obtain ⟨S, q, ce, st, Z, hce, hcl', hv⟩ := vx_vmAt Y hexec htr (cls := cls) (names := names) (text := text) hcls hnames hsoe hoom (vx_own hat' (vx_isRefq hU'.1) (vx_isRefq hN'.1) hU'.2.word hN'.2.word) (fun x hx => nomatch hx) htext
    (by rw [Launch.admits_arrayLengthLimit X.admits]; omega) (by rw [Launch.admits_maxHeapBytes X.admits]; simp only [componentBytes]; omega)
    (g := F0 m pc ls rest) rfl hsize hRframes (by show 2 * 0 + (rest.map fun v => v.category).sum + 10240 ≤ R.locals; omega) hshort (by show 0 + 3 ≤ 3; omega) (by show 0 + (_ + 4 + 6) ≤ nb + 10; omega) hlocks
  obtain ⟨f1, f2⟩ := vx_frame Z.same
  have f1' : H.size ≤ S.heap.size := by rw [← hT]; exact f1
  have f2' : ∀ q : Nat, q < H.size → S.heap[q]? = H[q]? := fun q hq => by
    rw [← hT]
    exact f2 q (by rw [← hT] at hq; exact hq) (fun z hz => nomatch hz)
  have X5 := vx_back9 X Y Z
  have X6 : Stand p l e R s m args below meth c S locs (cells + 3) (slots + (nb + 10)) := { X5 with same := X5.same.mono (by omega) (by omega) }
  obtain ⟨t, a1, b1⟩ := k S.heap q ce f1' f2' ⟨Nat.le_trans hS.1 f1', fun q h1 h2 => (f2' q (Nat.lt_of_lt_of_le h1 hS.1)).trans (hS.2.1 q h1 h2), hS.2.2⟩ hce hv hcl' S rfl X6
  exact ⟨t, st t a1, b1⟩
/-- from the machine's note that NullPointerException is thrown here -/
def vx_NoteN (p : Program) (l : Launch) (e : Env) (R : Room) (s : State) (m : MethodId) (args : Array Value) (below : List Frame) (meth : Method) (c : Code) (H : Heap) (locs : List Loc) (cells slots : Nat) (Q : State → Prop) (g : JFrame) : Prop :=
  ∀ T : State, T.heap = H → Stand p l e R s m args below meth c T locs cells slots → ∃ t, Steps p.tables e below ((T.setTop g).pushFrame (.throwNew "java/lang/NullPointerException" none none)) t ∧ Q t
theorem vx_npe {pc : Nat} {ls : Array Slot} {rest : List Value} {Q : State → Prop} (hexec : p.tables.exec = Jvm.exec) (hl : l.stackTraces = false) {nb : Nat} {A : Nat → Prop}
    (hat : ∀ w ∈ vx_atN nb, w.before args s = true) (hgood : ∀ w ∈ vx_atN nb, vx_ot w = true)
    (hU : vx_Zq Bundle.tN "UNASSIGNED_STACK" Bundle.steD A s s.heap) (hN : vx_Zq Bundle.tN "SUPPRESSED_SENTINEL" Bundle.listD A s s.heap) (hS : va_S A s.heap H locs) (hsize : ls.size = c.maxLocals)
    (hRframes : 7 < R.frames) (hRlocals : (rest.map fun v => v.category).sum + 10240 ≤ R.locals) (hRcells : cells + 1 ≤ R.cells) (hRslots : slots + nb ≤ R.slots) (hlocks : meth.locks = false)
    (k : ∀ (H1 : Heap) (q9 : Addr) (ce : Cell), H.size ≤ H1.size → (∀ q : Nat, q < H.size → H1[q]? = H[q]?) → va_S A s.heap H1 locs → H1[q9]? = some ce → ce.vm = .none → s.vm.findClass "java/lang/NullPointerException" = some ce.cls → vx_W p l e R s m args below meth c H1 locs (cells + 1) (slots + nb) Q (F0 m pc ls rest) q9) :
    vx_NoteN p l e R s m args below meth c H locs cells slots Q (F0 m pc ls rest) := by
  intro T hT X
  have htr : e.platform.stackTraces = false := (show e.platform.stackTraces = l.stackTraces by rw [X.admits.platform]).trans hl
  have Y := vx_rebase X (R' := { frames := R.frames, locals := R.locals, cells := 1, slots := nb }) (Nat.le_refl _) (Nat.le_refl _) hRcells hRslots
  have hhp : ((T.setVm s.vm).setFrames (.invoking m args :: below)).heap = H := hT
  have hW0 : s.WarmedH ((T.setVm s.vm).setFrames (.invoking m args :: below)).vm := State.WarmedH.refl s
  have hat' : ∀ w ∈ vx_atN nb, w.before args ((T.setVm s.vm).setFrames (.invoking m args :: below)) = true := fun w hw => vx_ot_at hW0 rfl (hgood w hw) (hat w hw)
  have hU' : vx_Zq Bundle.tN "UNASSIGNED_STACK" Bundle.steD A ((T.setVm s.vm).setFrames (.invoking m args :: below)) ((T.setVm s.vm).setFrames (.invoking m args :: below)).heap := by rw [hhp]; exact vx_Zq.moved hW0.alike (hU.kept hS.2.1)
  have hN' : vx_Zq Bundle.tN "SUPPRESSED_SENTINEL" Bundle.listD A ((T.setVm s.vm).setFrames (.invoking m args :: below)) ((T.setVm s.vm).setFrames (.invoking m args :: below)).heap := by rw [hhp]; exact vx_Zq.moved hW0.alike (hN.kept hS.2.1)
  obtain ⟨S, q, ce, st, Z, hce, hcl', hv⟩ := vx_npeAt Y hexec htr (n := nb) (vx_own hat' (vx_isRefq hU'.1) (vx_isRefq hN'.1) hU'.2.word hN'.2.word) (fun x hx => nomatch hx)
    (g := F0 m pc ls rest) rfl hsize hRframes (by show 2 * 0 + (rest.map fun v => v.category).sum + 10240 ≤ R.locals; omega) (by show 0 + 1 ≤ 1; omega) (by show 0 + nb ≤ nb; omega) hlocks
  obtain ⟨f1, f2⟩ := vx_frame Z.same
  have f1' : H.size ≤ S.heap.size := by rw [← hT]; exact f1
  have f2' : ∀ q : Nat, q < H.size → S.heap[q]? = H[q]? := fun q hq => by
    rw [← hT]
    exact f2 q (by rw [← hT] at hq; exact hq) (fun z hz => nomatch hz)
  have X5 := vx_back9 X Y Z
  have X6 : Stand p l e R s m args below meth c S locs (cells + 1) (slots + nb) := { X5 with same := X5.same.mono (by omega) (by omega) }
  obtain ⟨t, a1, b1⟩ := k S.heap q ce f1' f2' ⟨Nat.le_trans hS.1 f1', fun q h1 h2 => (f2' q (Nat.lt_of_lt_of_le h1 hS.1)).trans (hS.2.1 q h1 h2), hS.2.2⟩ hce hv hcl' S rfl X6
  exact ⟨t, st t a1, b1⟩
variable {Q : State → Prop} {cc : ByteArray} {pc : Nat} {ls : Array Slot} {rest : List Value}
theorem vx_idivZ (hexec : p.tables.exec = Jvm.exec) (hb : c.code = cc) {a b : Int32} (h0 : b = 0) (d : decode cc pc = .ok (.idiv, 1)) (k : vx_Note p l e R s m args below meth c H locs cells slots Q (F0 m pc ls rest) "java/lang/ArithmeticException" "/ by zero") :
    W p l e R s m args below meth c H locs cells slots Q (F0 m pc ls (.int b :: .int a :: rest)) := by
  intro T hT X
  obtain ⟨t, st, q⟩ := k T hT X
  exact ⟨t, X.idivZero hexec (g := F0 m pc ls (.int b :: .int a :: rest)) rfl (a := a) (rest := rest) (by rw [h0]) (by rw [hb]; exact d) t st, q⟩
theorem vx_iremZ (hexec : p.tables.exec = Jvm.exec) (hb : c.code = cc) {a b : Int32} (h0 : b = 0) (d : decode cc pc = .ok (.irem, 1)) (k : vx_Note p l e R s m args below meth c H locs cells slots Q (F0 m pc ls rest) "java/lang/ArithmeticException" "/ by zero") :
    W p l e R s m args below meth c H locs cells slots Q (F0 m pc ls (.int b :: .int a :: rest)) := by
  intro T hT X
  obtain ⟨t, st, q⟩ := k T hT X
  exact ⟨t, X.iremZero hexec (g := F0 m pc ls (.int b :: .int a :: rest)) rfl (a := a) (rest := rest) (by rw [h0]) (by rw [hb]; exact d) t st, q⟩
theorem vx_ldivZ (hexec : p.tables.exec = Jvm.exec) (hb : c.code = cc) {a b : Int64} (h0 : b = 0) (d : decode cc pc = .ok (.ldiv, 1)) (k : vx_Note p l e R s m args below meth c H locs cells slots Q (F0 m pc ls rest) "java/lang/ArithmeticException" "/ by zero") :
    W p l e R s m args below meth c H locs cells slots Q (F0 m pc ls (.long b :: .long a :: rest)) := by
  intro T hT X
  obtain ⟨t, st, q⟩ := k T hT X
  exact ⟨t, X.ldivZero hexec (g := F0 m pc ls (.long b :: .long a :: rest)) rfl (a := a) (rest := rest) (by rw [h0]) (by rw [hb]; exact d) t st, q⟩
theorem vx_lremZ (hexec : p.tables.exec = Jvm.exec) (hb : c.code = cc) {a b : Int64} (h0 : b = 0) (d : decode cc pc = .ok (.lrem, 1)) (k : vx_Note p l e R s m args below meth c H locs cells slots Q (F0 m pc ls rest) "java/lang/ArithmeticException" "/ by zero") :
    W p l e R s m args below meth c H locs cells slots Q (F0 m pc ls (.long b :: .long a :: rest)) := by
  intro T hT X
  obtain ⟨t, st, q⟩ := k T hT X
  exact ⟨t, X.lremZero hexec (g := F0 m pc ls (.long b :: .long a :: rest)) rfl (a := a) (rest := rest) (by rw [h0]) (by rw [hb]; exact d) t st, q⟩
theorem vx_ialdZ {D : va_G} {cl : List vw_C} {ws : va_W} {tys : List (ClassId × FieldType)} {a : Nat} (hexec : p.tables.exec = Jvm.exec) (hb : c.code = cc) (hK : va_K D cl tys s) (hP : va_P D cl ws H) (q0 t0 : Nat) {cA : ClassId} {n : Nat} {f : Nat → Int32} (ha : ws[q0]? = some (a, .inl (cA, n, .inl f))) (ht : tys[t0]? = some (cA, .int)) {i : Int32} (hout : ¬ vp_in i n) (hdg : decode cc pc = .ok (.iaload, 1))
    (k : ∀ tx : String, tx = (toString "Index " ++ toString i ++ toString " out of bounds for length " ++ toString n : String) → vx_Note p l e R s m args below meth c H locs cells slots Q (F0 m pc ls rest) "java/lang/ArrayIndexOutOfBoundsException" tx) : W p l e R s m args below meth c H locs cells slots Q (F0 m pc ls (.int i :: .ref a :: rest)) := by
  intro T hT X
  obtain ⟨t, st, q⟩ := k _ rfl T hT X
  refine ⟨t, ?_, q⟩
  have h1 := X.ialoadOut hexec (by rw [hT]; exact hP q0 _ ha) ((hK.2 t0 _ ht).1 n (fun j => .int (f j))) (j := i) (by show (i < 0 ∨ (arrV _ _ _).slots.size ≤ _); rw [arrV_size]; exact Classical.byContradiction hout) (g := F0 m pc ls (.int i :: .ref a :: rest)) rfl (rest := rest) rfl (by rw [hb]; exact hdg) t
  simp only [arrV_size] at h1
  exact h1 st
theorem vx_iastZ {D : va_G} {cl : List vw_C} {ws : va_W} {tys : List (ClassId × FieldType)} {a : Nat} (hexec : p.tables.exec = Jvm.exec) (hb : c.code = cc) (hK : va_K D cl tys s) (hP : va_P D cl ws H) (q0 t0 : Nat) {cA : ClassId} {n : Nat} {f : Nat → Int32} (ha : ws[q0]? = some (a, .inl (cA, n, .inl f))) (ht : tys[t0]? = some (cA, .int)) {i : Int32} {x : Int32} (hout : ¬ vp_in i n) (hdg : decode cc pc = .ok (.iastore, 1))
    (k : ∀ tx : String, tx = (toString "Index " ++ toString i ++ toString " out of bounds for length " ++ toString n : String) → vx_Note p l e R s m args below meth c H locs cells slots Q (F0 m pc ls rest) "java/lang/ArrayIndexOutOfBoundsException" tx) : W p l e R s m args below meth c H locs cells slots Q (F0 m pc ls (.int x :: .int i :: .ref a :: rest)) := by
  intro T hT X
  obtain ⟨t, st, q⟩ := k _ rfl T hT X
  refine ⟨t, ?_, q⟩
  have h1 := X.iastoreOut hexec (by rw [hT]; exact hP q0 _ ha) ((hK.2 t0 _ ht).1 n (fun j => .int (f j))) (j := i) (by show (i < 0 ∨ (arrV _ _ _).slots.size ≤ _); rw [arrV_size]; exact Classical.byContradiction hout) (g := F0 m pc ls (.int x :: .int i :: .ref a :: rest)) rfl (rest := rest) rfl (by rw [hb]; exact hdg) t
  simp only [arrV_size] at h1
  exact h1 st
theorem vx_baldZ {D : va_G} {cl : List vw_C} {ws : va_W} {tys : List (ClassId × FieldType)} {a : Nat} (hexec : p.tables.exec = Jvm.exec) (hb : c.code = cc) (hK : va_K D cl tys s) (hP : va_P D cl ws H) (q0 t0 : Nat) {cA : ClassId} {n : Nat} {f : Nat → Int32} (ha : ws[q0]? = some (a, .inl (cA, n, .inl f))) (ht : tys[t0]? = some (cA, .byte)) {i : Int32} (hout : ¬ vp_in i n) (hdg : decode cc pc = .ok (.baload, 1))
    (k : ∀ tx : String, tx = (toString "Index " ++ toString i ++ toString " out of bounds for length " ++ toString n : String) → vx_Note p l e R s m args below meth c H locs cells slots Q (F0 m pc ls rest) "java/lang/ArrayIndexOutOfBoundsException" tx) : W p l e R s m args below meth c H locs cells slots Q (F0 m pc ls (.int i :: .ref a :: rest)) := by
  intro T hT X
  obtain ⟨t, st, q⟩ := k _ rfl T hT X
  refine ⟨t, ?_, q⟩
  have h1 := X.baloadOut hexec (by rw [hT]; exact hP q0 _ ha) ((hK.2 t0 _ ht).1 n (fun j => .int (f j))) (j := i) (by show (i < 0 ∨ (arrV _ _ _).slots.size ≤ _); rw [arrV_size]; exact Classical.byContradiction hout) (g := F0 m pc ls (.int i :: .ref a :: rest)) rfl (rest := rest) rfl (by rw [hb]; exact hdg) t
  simp only [arrV_size] at h1
  exact h1 st
theorem vx_bastZ {D : va_G} {cl : List vw_C} {ws : va_W} {tys : List (ClassId × FieldType)} {a : Nat} (hexec : p.tables.exec = Jvm.exec) (hb : c.code = cc) (hK : va_K D cl tys s) (hP : va_P D cl ws H) (q0 t0 : Nat) {cA : ClassId} {n : Nat} {f : Nat → Int32} (ha : ws[q0]? = some (a, .inl (cA, n, .inl f))) (ht : tys[t0]? = some (cA, .byte)) {i : Int32} {x : Int32} (hout : ¬ vp_in i n) (hdg : decode cc pc = .ok (.bastore, 1))
    (k : ∀ tx : String, tx = (toString "Index " ++ toString i ++ toString " out of bounds for length " ++ toString n : String) → vx_Note p l e R s m args below meth c H locs cells slots Q (F0 m pc ls rest) "java/lang/ArrayIndexOutOfBoundsException" tx) : W p l e R s m args below meth c H locs cells slots Q (F0 m pc ls (.int x :: .int i :: .ref a :: rest)) := by
  intro T hT X
  obtain ⟨t, st, q⟩ := k _ rfl T hT X
  refine ⟨t, ?_, q⟩
  have h1 := X.bastoreOut hexec (by rw [hT]; exact hP q0 _ ha) ((hK.2 t0 _ ht).1 n (fun j => .int (f j))) (j := i) (by show (i < 0 ∨ (arrV _ _ _).slots.size ≤ _); rw [arrV_size]; exact Classical.byContradiction hout) (g := F0 m pc ls (.int x :: .int i :: .ref a :: rest)) rfl (rest := rest) rfl (by rw [hb]; exact hdg) t
  simp only [arrV_size] at h1
  exact h1 st
theorem vx_zaldZ {D : va_G} {cl : List vw_C} {ws : va_W} {tys : List (ClassId × FieldType)} {a : Nat} (hexec : p.tables.exec = Jvm.exec) (hb : c.code = cc) (hK : va_K D cl tys s) (hP : va_P D cl ws H) (q0 t0 : Nat) {cA : ClassId} {n : Nat} {f : Nat → Int32} (ha : ws[q0]? = some (a, .inl (cA, n, .inl f))) (ht : tys[t0]? = some (cA, .boolean)) {i : Int32} (hout : ¬ vp_in i n) (hdg : decode cc pc = .ok (.baload, 1))
    (k : ∀ tx : String, tx = (toString "Index " ++ toString i ++ toString " out of bounds for length " ++ toString n : String) → vx_Note p l e R s m args below meth c H locs cells slots Q (F0 m pc ls rest) "java/lang/ArrayIndexOutOfBoundsException" tx) : W p l e R s m args below meth c H locs cells slots Q (F0 m pc ls (.int i :: .ref a :: rest)) := by
  intro T hT X
  obtain ⟨t, st, q⟩ := k _ rfl T hT X
  refine ⟨t, ?_, q⟩
  have h1 := X.baloadOut hexec (by rw [hT]; exact hP q0 _ ha) ((hK.2 t0 _ ht).1 n (fun j => .int (f j))) (j := i) (by show (i < 0 ∨ (arrV _ _ _).slots.size ≤ _); rw [arrV_size]; exact Classical.byContradiction hout) (g := F0 m pc ls (.int i :: .ref a :: rest)) rfl (rest := rest) rfl (by rw [hb]; exact hdg) t
  simp only [arrV_size] at h1
  exact h1 st
theorem vx_zastZ {D : va_G} {cl : List vw_C} {ws : va_W} {tys : List (ClassId × FieldType)} {a : Nat} (hexec : p.tables.exec = Jvm.exec) (hb : c.code = cc) (hK : va_K D cl tys s) (hP : va_P D cl ws H) (q0 t0 : Nat) {cA : ClassId} {n : Nat} {f : Nat → Int32} (ha : ws[q0]? = some (a, .inl (cA, n, .inl f))) (ht : tys[t0]? = some (cA, .boolean)) {i : Int32} {x : Int32} (hout : ¬ vp_in i n) (hdg : decode cc pc = .ok (.bastore, 1))
    (k : ∀ tx : String, tx = (toString "Index " ++ toString i ++ toString " out of bounds for length " ++ toString n : String) → vx_Note p l e R s m args below meth c H locs cells slots Q (F0 m pc ls rest) "java/lang/ArrayIndexOutOfBoundsException" tx) : W p l e R s m args below meth c H locs cells slots Q (F0 m pc ls (.int x :: .int i :: .ref a :: rest)) := by
  intro T hT X
  obtain ⟨t, st, q⟩ := k _ rfl T hT X
  refine ⟨t, ?_, q⟩
  have h1 := X.bastoreOut hexec (by rw [hT]; exact hP q0 _ ha) ((hK.2 t0 _ ht).1 n (fun j => .int (f j))) (j := i) (by show (i < 0 ∨ (arrV _ _ _).slots.size ≤ _); rw [arrV_size]; exact Classical.byContradiction hout) (g := F0 m pc ls (.int x :: .int i :: .ref a :: rest)) rfl (rest := rest) rfl (by rw [hb]; exact hdg) t
  simp only [arrV_size] at h1
  exact h1 st
theorem vx_caldZ {D : va_G} {cl : List vw_C} {ws : va_W} {tys : List (ClassId × FieldType)} {a : Nat} (hexec : p.tables.exec = Jvm.exec) (hb : c.code = cc) (hK : va_K D cl tys s) (hP : va_P D cl ws H) (q0 t0 : Nat) {cA : ClassId} {n : Nat} {f : Nat → Int32} (ha : ws[q0]? = some (a, .inl (cA, n, .inl f))) (ht : tys[t0]? = some (cA, .char)) {i : Int32} (hout : ¬ vp_in i n) (hdg : decode cc pc = .ok (.caload, 1))
    (k : ∀ tx : String, tx = (toString "Index " ++ toString i ++ toString " out of bounds for length " ++ toString n : String) → vx_Note p l e R s m args below meth c H locs cells slots Q (F0 m pc ls rest) "java/lang/ArrayIndexOutOfBoundsException" tx) : W p l e R s m args below meth c H locs cells slots Q (F0 m pc ls (.int i :: .ref a :: rest)) := by
  intro T hT X
  obtain ⟨t, st, q⟩ := k _ rfl T hT X
  refine ⟨t, ?_, q⟩
  have h1 := X.caloadOut hexec (by rw [hT]; exact hP q0 _ ha) ((hK.2 t0 _ ht).1 n (fun j => .int (f j))) (j := i) (by show (i < 0 ∨ (arrV _ _ _).slots.size ≤ _); rw [arrV_size]; exact Classical.byContradiction hout) (g := F0 m pc ls (.int i :: .ref a :: rest)) rfl (rest := rest) rfl (by rw [hb]; exact hdg) t
  simp only [arrV_size] at h1
  exact h1 st
theorem vx_castZ {D : va_G} {cl : List vw_C} {ws : va_W} {tys : List (ClassId × FieldType)} {a : Nat} (hexec : p.tables.exec = Jvm.exec) (hb : c.code = cc) (hK : va_K D cl tys s) (hP : va_P D cl ws H) (q0 t0 : Nat) {cA : ClassId} {n : Nat} {f : Nat → Int32} (ha : ws[q0]? = some (a, .inl (cA, n, .inl f))) (ht : tys[t0]? = some (cA, .char)) {i : Int32} {x : Int32} (hout : ¬ vp_in i n) (hdg : decode cc pc = .ok (.castore, 1))
    (k : ∀ tx : String, tx = (toString "Index " ++ toString i ++ toString " out of bounds for length " ++ toString n : String) → vx_Note p l e R s m args below meth c H locs cells slots Q (F0 m pc ls rest) "java/lang/ArrayIndexOutOfBoundsException" tx) : W p l e R s m args below meth c H locs cells slots Q (F0 m pc ls (.int x :: .int i :: .ref a :: rest)) := by
  intro T hT X
  obtain ⟨t, st, q⟩ := k _ rfl T hT X
  refine ⟨t, ?_, q⟩
  have h1 := X.castoreOut hexec (by rw [hT]; exact hP q0 _ ha) ((hK.2 t0 _ ht).1 n (fun j => .int (f j))) (j := i) (by show (i < 0 ∨ (arrV _ _ _).slots.size ≤ _); rw [arrV_size]; exact Classical.byContradiction hout) (g := F0 m pc ls (.int x :: .int i :: .ref a :: rest)) rfl (rest := rest) rfl (by rw [hb]; exact hdg) t
  simp only [arrV_size] at h1
  exact h1 st
theorem vx_saldZ {D : va_G} {cl : List vw_C} {ws : va_W} {tys : List (ClassId × FieldType)} {a : Nat} (hexec : p.tables.exec = Jvm.exec) (hb : c.code = cc) (hK : va_K D cl tys s) (hP : va_P D cl ws H) (q0 t0 : Nat) {cA : ClassId} {n : Nat} {f : Nat → Int32} (ha : ws[q0]? = some (a, .inl (cA, n, .inl f))) (ht : tys[t0]? = some (cA, .short)) {i : Int32} (hout : ¬ vp_in i n) (hdg : decode cc pc = .ok (.saload, 1))
    (k : ∀ tx : String, tx = (toString "Index " ++ toString i ++ toString " out of bounds for length " ++ toString n : String) → vx_Note p l e R s m args below meth c H locs cells slots Q (F0 m pc ls rest) "java/lang/ArrayIndexOutOfBoundsException" tx) : W p l e R s m args below meth c H locs cells slots Q (F0 m pc ls (.int i :: .ref a :: rest)) := by
  intro T hT X
  obtain ⟨t, st, q⟩ := k _ rfl T hT X
  refine ⟨t, ?_, q⟩
  have h1 := X.saloadOut hexec (by rw [hT]; exact hP q0 _ ha) ((hK.2 t0 _ ht).1 n (fun j => .int (f j))) (j := i) (by show (i < 0 ∨ (arrV _ _ _).slots.size ≤ _); rw [arrV_size]; exact Classical.byContradiction hout) (g := F0 m pc ls (.int i :: .ref a :: rest)) rfl (rest := rest) rfl (by rw [hb]; exact hdg) t
  simp only [arrV_size] at h1
  exact h1 st
theorem vx_sastZ {D : va_G} {cl : List vw_C} {ws : va_W} {tys : List (ClassId × FieldType)} {a : Nat} (hexec : p.tables.exec = Jvm.exec) (hb : c.code = cc) (hK : va_K D cl tys s) (hP : va_P D cl ws H) (q0 t0 : Nat) {cA : ClassId} {n : Nat} {f : Nat → Int32} (ha : ws[q0]? = some (a, .inl (cA, n, .inl f))) (ht : tys[t0]? = some (cA, .short)) {i : Int32} {x : Int32} (hout : ¬ vp_in i n) (hdg : decode cc pc = .ok (.sastore, 1))
    (k : ∀ tx : String, tx = (toString "Index " ++ toString i ++ toString " out of bounds for length " ++ toString n : String) → vx_Note p l e R s m args below meth c H locs cells slots Q (F0 m pc ls rest) "java/lang/ArrayIndexOutOfBoundsException" tx) : W p l e R s m args below meth c H locs cells slots Q (F0 m pc ls (.int x :: .int i :: .ref a :: rest)) := by
  intro T hT X
  obtain ⟨t, st, q⟩ := k _ rfl T hT X
  refine ⟨t, ?_, q⟩
  have h1 := X.sastoreOut hexec (by rw [hT]; exact hP q0 _ ha) ((hK.2 t0 _ ht).1 n (fun j => .int (f j))) (j := i) (by show (i < 0 ∨ (arrV _ _ _).slots.size ≤ _); rw [arrV_size]; exact Classical.byContradiction hout) (g := F0 m pc ls (.int x :: .int i :: .ref a :: rest)) rfl (rest := rest) rfl (by rw [hb]; exact hdg) t
  simp only [arrV_size] at h1
  exact h1 st
theorem vx_laldZ {D : va_G} {cl : List vw_C} {ws : va_W} {tys : List (ClassId × FieldType)} {a : Nat} (hexec : p.tables.exec = Jvm.exec) (hb : c.code = cc) (hK : va_K D cl tys s) (hP : va_P D cl ws H) (q0 t0 : Nat) {cA : ClassId} {n : Nat} {f : Nat → Int64} (ha : ws[q0]? = some (a, .inl (cA, n, .inr (.inl f)))) (ht : tys[t0]? = some (cA, .long)) {i : Int32} (hout : ¬ vp_in i n) (hdg : decode cc pc = .ok (.laload, 1))
    (k : ∀ tx : String, tx = (toString "Index " ++ toString i ++ toString " out of bounds for length " ++ toString n : String) → vx_Note p l e R s m args below meth c H locs cells slots Q (F0 m pc ls rest) "java/lang/ArrayIndexOutOfBoundsException" tx) : W p l e R s m args below meth c H locs cells slots Q (F0 m pc ls (.int i :: .ref a :: rest)) := by
  intro T hT X
  obtain ⟨t, st, q⟩ := k _ rfl T hT X
  refine ⟨t, ?_, q⟩
  have h1 := X.laloadOut hexec (by rw [hT]; exact hP q0 _ ha) ((hK.2 t0 _ ht).1 n (fun j => .long (f j))) (j := i) (by show (i < 0 ∨ (arrV _ _ _).slots.size ≤ _); rw [arrV_size]; exact Classical.byContradiction hout) (g := F0 m pc ls (.int i :: .ref a :: rest)) rfl (rest := rest) rfl (by rw [hb]; exact hdg) t
  simp only [arrV_size] at h1
  exact h1 st
theorem vx_lastZ {D : va_G} {cl : List vw_C} {ws : va_W} {tys : List (ClassId × FieldType)} {a : Nat} (hexec : p.tables.exec = Jvm.exec) (hb : c.code = cc) (hK : va_K D cl tys s) (hP : va_P D cl ws H) (q0 t0 : Nat) {cA : ClassId} {n : Nat} {f : Nat → Int64} (ha : ws[q0]? = some (a, .inl (cA, n, .inr (.inl f)))) (ht : tys[t0]? = some (cA, .long)) {i : Int32} {x : Int64} (hout : ¬ vp_in i n) (hdg : decode cc pc = .ok (.lastore, 1))
    (k : ∀ tx : String, tx = (toString "Index " ++ toString i ++ toString " out of bounds for length " ++ toString n : String) → vx_Note p l e R s m args below meth c H locs cells slots Q (F0 m pc ls rest) "java/lang/ArrayIndexOutOfBoundsException" tx) : W p l e R s m args below meth c H locs cells slots Q (F0 m pc ls (.long x :: .int i :: .ref a :: rest)) := by
  intro T hT X
  obtain ⟨t, st, q⟩ := k _ rfl T hT X
  refine ⟨t, ?_, q⟩
  have h1 := X.lastoreOut hexec (by rw [hT]; exact hP q0 _ ha) ((hK.2 t0 _ ht).1 n (fun j => .long (f j))) (j := i) (by show (i < 0 ∨ (arrV _ _ _).slots.size ≤ _); rw [arrV_size]; exact Classical.byContradiction hout) (g := F0 m pc ls (.long x :: .int i :: .ref a :: rest)) rfl (rest := rest) rfl (by rw [hb]; exact hdg) t
  simp only [arrV_size] at h1
  exact h1 st
theorem vx_faldZ {D : va_G} {cl : List vw_C} {ws : va_W} {tys : List (ClassId × FieldType)} {a : Nat} (hexec : p.tables.exec = Jvm.exec) (hb : c.code = cc) (hK : va_K D cl tys s) (hP : va_P D cl ws H) (q0 t0 : Nat) {cA : ClassId} {n : Nat} {f : Nat → UInt32} (ha : ws[q0]? = some (a, .inl (cA, n, .inr (.inr (.inl f))))) (ht : tys[t0]? = some (cA, .float)) {i : Int32} (hout : ¬ vp_in i n) (hdg : decode cc pc = .ok (.faload, 1))
    (k : ∀ tx : String, tx = (toString "Index " ++ toString i ++ toString " out of bounds for length " ++ toString n : String) → vx_Note p l e R s m args below meth c H locs cells slots Q (F0 m pc ls rest) "java/lang/ArrayIndexOutOfBoundsException" tx) : W p l e R s m args below meth c H locs cells slots Q (F0 m pc ls (.int i :: .ref a :: rest)) := by
  intro T hT X
  obtain ⟨t, st, q⟩ := k _ rfl T hT X
  refine ⟨t, ?_, q⟩
  have h1 := X.faloadOut hexec (by rw [hT]; exact hP q0 _ ha) ((hK.2 t0 _ ht).1 n (fun j => .float (f j))) (j := i) (by show (i < 0 ∨ (arrV _ _ _).slots.size ≤ _); rw [arrV_size]; exact Classical.byContradiction hout) (g := F0 m pc ls (.int i :: .ref a :: rest)) rfl (rest := rest) rfl (by rw [hb]; exact hdg) t
  simp only [arrV_size] at h1
  exact h1 st
theorem vx_fastZ {D : va_G} {cl : List vw_C} {ws : va_W} {tys : List (ClassId × FieldType)} {a : Nat} (hexec : p.tables.exec = Jvm.exec) (hb : c.code = cc) (hK : va_K D cl tys s) (hP : va_P D cl ws H) (q0 t0 : Nat) {cA : ClassId} {n : Nat} {f : Nat → UInt32} (ha : ws[q0]? = some (a, .inl (cA, n, .inr (.inr (.inl f))))) (ht : tys[t0]? = some (cA, .float)) {i : Int32} {x : UInt32} (hout : ¬ vp_in i n) (hdg : decode cc pc = .ok (.fastore, 1))
    (k : ∀ tx : String, tx = (toString "Index " ++ toString i ++ toString " out of bounds for length " ++ toString n : String) → vx_Note p l e R s m args below meth c H locs cells slots Q (F0 m pc ls rest) "java/lang/ArrayIndexOutOfBoundsException" tx) : W p l e R s m args below meth c H locs cells slots Q (F0 m pc ls (.float x :: .int i :: .ref a :: rest)) := by
  intro T hT X
  obtain ⟨t, st, q⟩ := k _ rfl T hT X
  refine ⟨t, ?_, q⟩
  have h1 := X.fastoreOut hexec (by rw [hT]; exact hP q0 _ ha) ((hK.2 t0 _ ht).1 n (fun j => .float (f j))) (j := i) (by show (i < 0 ∨ (arrV _ _ _).slots.size ≤ _); rw [arrV_size]; exact Classical.byContradiction hout) (g := F0 m pc ls (.float x :: .int i :: .ref a :: rest)) rfl (rest := rest) rfl (by rw [hb]; exact hdg) t
  simp only [arrV_size] at h1
  exact h1 st
theorem vx_daldZ {D : va_G} {cl : List vw_C} {ws : va_W} {tys : List (ClassId × FieldType)} {a : Nat} (hexec : p.tables.exec = Jvm.exec) (hb : c.code = cc) (hK : va_K D cl tys s) (hP : va_P D cl ws H) (q0 t0 : Nat) {cA : ClassId} {n : Nat} {f : Nat → UInt64} (ha : ws[q0]? = some (a, .inl (cA, n, .inr (.inr (.inr (.inl f)))))) (ht : tys[t0]? = some (cA, .double)) {i : Int32} (hout : ¬ vp_in i n) (hdg : decode cc pc = .ok (.daload, 1))
    (k : ∀ tx : String, tx = (toString "Index " ++ toString i ++ toString " out of bounds for length " ++ toString n : String) → vx_Note p l e R s m args below meth c H locs cells slots Q (F0 m pc ls rest) "java/lang/ArrayIndexOutOfBoundsException" tx) : W p l e R s m args below meth c H locs cells slots Q (F0 m pc ls (.int i :: .ref a :: rest)) := by
  intro T hT X
  obtain ⟨t, st, q⟩ := k _ rfl T hT X
  refine ⟨t, ?_, q⟩
  have h1 := X.daloadOut hexec (by rw [hT]; exact hP q0 _ ha) ((hK.2 t0 _ ht).1 n (fun j => .double (f j))) (j := i) (by show (i < 0 ∨ (arrV _ _ _).slots.size ≤ _); rw [arrV_size]; exact Classical.byContradiction hout) (g := F0 m pc ls (.int i :: .ref a :: rest)) rfl (rest := rest) rfl (by rw [hb]; exact hdg) t
  simp only [arrV_size] at h1
  exact h1 st
theorem vx_dastZ {D : va_G} {cl : List vw_C} {ws : va_W} {tys : List (ClassId × FieldType)} {a : Nat} (hexec : p.tables.exec = Jvm.exec) (hb : c.code = cc) (hK : va_K D cl tys s) (hP : va_P D cl ws H) (q0 t0 : Nat) {cA : ClassId} {n : Nat} {f : Nat → UInt64} (ha : ws[q0]? = some (a, .inl (cA, n, .inr (.inr (.inr (.inl f)))))) (ht : tys[t0]? = some (cA, .double)) {i : Int32} {x : UInt64} (hout : ¬ vp_in i n) (hdg : decode cc pc = .ok (.dastore, 1))
    (k : ∀ tx : String, tx = (toString "Index " ++ toString i ++ toString " out of bounds for length " ++ toString n : String) → vx_Note p l e R s m args below meth c H locs cells slots Q (F0 m pc ls rest) "java/lang/ArrayIndexOutOfBoundsException" tx) : W p l e R s m args below meth c H locs cells slots Q (F0 m pc ls (.double x :: .int i :: .ref a :: rest)) := by
  intro T hT X
  obtain ⟨t, st, q⟩ := k _ rfl T hT X
  refine ⟨t, ?_, q⟩
  have h1 := X.dastoreOut hexec (by rw [hT]; exact hP q0 _ ha) ((hK.2 t0 _ ht).1 n (fun j => .double (f j))) (j := i) (by show (i < 0 ∨ (arrV _ _ _).slots.size ≤ _); rw [arrV_size]; exact Classical.byContradiction hout) (g := F0 m pc ls (.double x :: .int i :: .ref a :: rest)) rfl (rest := rest) rfl (by rw [hb]; exact hdg) t
  simp only [arrV_size] at h1
  exact h1 st
theorem vx_arraylengthN (hexec : p.tables.exec = Jvm.exec) (hb : c.code = cc) (hdg : decode cc pc = .ok (.arraylength, 1)) (k : vx_NoteN p l e R s m args below meth c H locs cells slots Q (F0 m pc ls rest)) : W p l e R s m args below meth c H locs cells slots Q (F0 m pc ls (.null :: rest)) := by
  intro T hT X
  obtain ⟨t, st, q⟩ := k T hT X
  exact ⟨t, X.arraylengthNull hexec (g := F0 m pc ls (.null :: rest)) rfl (rest := rest) rfl (by rw [hb]; exact hdg) t st, q⟩
theorem vx_ialoadN (hexec : p.tables.exec = Jvm.exec) (hb : c.code = cc) {i : Int32} (hdg : decode cc pc = .ok (.iaload, 1)) (k : vx_NoteN p l e R s m args below meth c H locs cells slots Q (F0 m pc ls rest)) : W p l e R s m args below meth c H locs cells slots Q (F0 m pc ls (.int i :: .null :: rest)) := by
  intro T hT X
  obtain ⟨t, st, q⟩ := k T hT X
  exact ⟨t, X.ialoadNull hexec (g := F0 m pc ls (.int i :: .null :: rest)) rfl (rest := rest) rfl (by rw [hb]; exact hdg) t st, q⟩
theorem vx_laloadN (hexec : p.tables.exec = Jvm.exec) (hb : c.code = cc) {i : Int32} (hdg : decode cc pc = .ok (.laload, 1)) (k : vx_NoteN p l e R s m args below meth c H locs cells slots Q (F0 m pc ls rest)) : W p l e R s m args below meth c H locs cells slots Q (F0 m pc ls (.int i :: .null :: rest)) := by
  intro T hT X
  obtain ⟨t, st, q⟩ := k T hT X
  exact ⟨t, X.laloadNull hexec (g := F0 m pc ls (.int i :: .null :: rest)) rfl (rest := rest) rfl (by rw [hb]; exact hdg) t st, q⟩
theorem vx_faloadN (hexec : p.tables.exec = Jvm.exec) (hb : c.code = cc) {i : Int32} (hdg : decode cc pc = .ok (.faload, 1)) (k : vx_NoteN p l e R s m args below meth c H locs cells slots Q (F0 m pc ls rest)) : W p l e R s m args below meth c H locs cells slots Q (F0 m pc ls (.int i :: .null :: rest)) := by
  intro T hT X
  obtain ⟨t, st, q⟩ := k T hT X
  exact ⟨t, X.faloadNull hexec (g := F0 m pc ls (.int i :: .null :: rest)) rfl (rest := rest) rfl (by rw [hb]; exact hdg) t st, q⟩
theorem vx_daloadN (hexec : p.tables.exec = Jvm.exec) (hb : c.code = cc) {i : Int32} (hdg : decode cc pc = .ok (.daload, 1)) (k : vx_NoteN p l e R s m args below meth c H locs cells slots Q (F0 m pc ls rest)) : W p l e R s m args below meth c H locs cells slots Q (F0 m pc ls (.int i :: .null :: rest)) := by
  intro T hT X
  obtain ⟨t, st, q⟩ := k T hT X
  exact ⟨t, X.daloadNull hexec (g := F0 m pc ls (.int i :: .null :: rest)) rfl (rest := rest) rfl (by rw [hb]; exact hdg) t st, q⟩
theorem vx_aaloadN (hexec : p.tables.exec = Jvm.exec) (hb : c.code = cc) {i : Int32} (hdg : decode cc pc = .ok (.aaload, 1)) (k : vx_NoteN p l e R s m args below meth c H locs cells slots Q (F0 m pc ls rest)) : W p l e R s m args below meth c H locs cells slots Q (F0 m pc ls (.int i :: .null :: rest)) := by
  intro T hT X
  obtain ⟨t, st, q⟩ := k T hT X
  exact ⟨t, X.aaloadNull hexec (g := F0 m pc ls (.int i :: .null :: rest)) rfl (rest := rest) rfl (by rw [hb]; exact hdg) t st, q⟩
theorem vx_baloadN (hexec : p.tables.exec = Jvm.exec) (hb : c.code = cc) {i : Int32} (hdg : decode cc pc = .ok (.baload, 1)) (k : vx_NoteN p l e R s m args below meth c H locs cells slots Q (F0 m pc ls rest)) : W p l e R s m args below meth c H locs cells slots Q (F0 m pc ls (.int i :: .null :: rest)) := by
  intro T hT X
  obtain ⟨t, st, q⟩ := k T hT X
  exact ⟨t, X.baloadNull hexec (g := F0 m pc ls (.int i :: .null :: rest)) rfl (rest := rest) rfl (by rw [hb]; exact hdg) t st, q⟩
theorem vx_caloadN (hexec : p.tables.exec = Jvm.exec) (hb : c.code = cc) {i : Int32} (hdg : decode cc pc = .ok (.caload, 1)) (k : vx_NoteN p l e R s m args below meth c H locs cells slots Q (F0 m pc ls rest)) : W p l e R s m args below meth c H locs cells slots Q (F0 m pc ls (.int i :: .null :: rest)) := by
  intro T hT X
  obtain ⟨t, st, q⟩ := k T hT X
  exact ⟨t, X.caloadNull hexec (g := F0 m pc ls (.int i :: .null :: rest)) rfl (rest := rest) rfl (by rw [hb]; exact hdg) t st, q⟩
theorem vx_saloadN (hexec : p.tables.exec = Jvm.exec) (hb : c.code = cc) {i : Int32} (hdg : decode cc pc = .ok (.saload, 1)) (k : vx_NoteN p l e R s m args below meth c H locs cells slots Q (F0 m pc ls rest)) : W p l e R s m args below meth c H locs cells slots Q (F0 m pc ls (.int i :: .null :: rest)) := by
  intro T hT X
  obtain ⟨t, st, q⟩ := k T hT X
  exact ⟨t, X.saloadNull hexec (g := F0 m pc ls (.int i :: .null :: rest)) rfl (rest := rest) rfl (by rw [hb]; exact hdg) t st, q⟩
theorem vx_iastoreN (hexec : p.tables.exec = Jvm.exec) (hb : c.code = cc) {x : Int32} {i : Int32} (hdg : decode cc pc = .ok (.iastore, 1)) (k : vx_NoteN p l e R s m args below meth c H locs cells slots Q (F0 m pc ls rest)) : W p l e R s m args below meth c H locs cells slots Q (F0 m pc ls (.int x :: .int i :: .null :: rest)) := by
  intro T hT X
  obtain ⟨t, st, q⟩ := k T hT X
  exact ⟨t, X.iastoreNull hexec (g := F0 m pc ls (.int x :: .int i :: .null :: rest)) rfl (rest := rest) rfl (by rw [hb]; exact hdg) t st, q⟩
theorem vx_lastoreN (hexec : p.tables.exec = Jvm.exec) (hb : c.code = cc) {x : Int64} {i : Int32} (hdg : decode cc pc = .ok (.lastore, 1)) (k : vx_NoteN p l e R s m args below meth c H locs cells slots Q (F0 m pc ls rest)) : W p l e R s m args below meth c H locs cells slots Q (F0 m pc ls (.long x :: .int i :: .null :: rest)) := by
  intro T hT X
  obtain ⟨t, st, q⟩ := k T hT X
  exact ⟨t, X.lastoreNull hexec (g := F0 m pc ls (.long x :: .int i :: .null :: rest)) rfl (rest := rest) rfl (by rw [hb]; exact hdg) t st, q⟩
theorem vx_fastoreN (hexec : p.tables.exec = Jvm.exec) (hb : c.code = cc) {x : UInt32} {i : Int32} (hdg : decode cc pc = .ok (.fastore, 1)) (k : vx_NoteN p l e R s m args below meth c H locs cells slots Q (F0 m pc ls rest)) : W p l e R s m args below meth c H locs cells slots Q (F0 m pc ls (.float x :: .int i :: .null :: rest)) := by
  intro T hT X
  obtain ⟨t, st, q⟩ := k T hT X
  exact ⟨t, X.fastoreNull hexec (g := F0 m pc ls (.float x :: .int i :: .null :: rest)) rfl (rest := rest) rfl (by rw [hb]; exact hdg) t st, q⟩
theorem vx_dastoreN (hexec : p.tables.exec = Jvm.exec) (hb : c.code = cc) {x : UInt64} {i : Int32} (hdg : decode cc pc = .ok (.dastore, 1)) (k : vx_NoteN p l e R s m args below meth c H locs cells slots Q (F0 m pc ls rest)) : W p l e R s m args below meth c H locs cells slots Q (F0 m pc ls (.double x :: .int i :: .null :: rest)) := by
  intro T hT X
  obtain ⟨t, st, q⟩ := k T hT X
  exact ⟨t, X.dastoreNull hexec (g := F0 m pc ls (.double x :: .int i :: .null :: rest)) rfl (rest := rest) rfl (by rw [hb]; exact hdg) t st, q⟩
theorem vx_bastoreN (hexec : p.tables.exec = Jvm.exec) (hb : c.code = cc) {x : Int32} {i : Int32} (hdg : decode cc pc = .ok (.bastore, 1)) (k : vx_NoteN p l e R s m args below meth c H locs cells slots Q (F0 m pc ls rest)) : W p l e R s m args below meth c H locs cells slots Q (F0 m pc ls (.int x :: .int i :: .null :: rest)) := by
  intro T hT X
  obtain ⟨t, st, q⟩ := k T hT X
  exact ⟨t, X.bastoreNull hexec (g := F0 m pc ls (.int x :: .int i :: .null :: rest)) rfl (rest := rest) rfl (by rw [hb]; exact hdg) t st, q⟩
theorem vx_castoreN (hexec : p.tables.exec = Jvm.exec) (hb : c.code = cc) {x : Int32} {i : Int32} (hdg : decode cc pc = .ok (.castore, 1)) (k : vx_NoteN p l e R s m args below meth c H locs cells slots Q (F0 m pc ls rest)) : W p l e R s m args below meth c H locs cells slots Q (F0 m pc ls (.int x :: .int i :: .null :: rest)) := by
  intro T hT X
  obtain ⟨t, st, q⟩ := k T hT X
  exact ⟨t, X.castoreNull hexec (g := F0 m pc ls (.int x :: .int i :: .null :: rest)) rfl (rest := rest) rfl (by rw [hb]; exact hdg) t st, q⟩
theorem vx_sastoreN (hexec : p.tables.exec = Jvm.exec) (hb : c.code = cc) {x : Int32} {i : Int32} (hdg : decode cc pc = .ok (.sastore, 1)) (k : vx_NoteN p l e R s m args below meth c H locs cells slots Q (F0 m pc ls rest)) : W p l e R s m args below meth c H locs cells slots Q (F0 m pc ls (.int x :: .int i :: .null :: rest)) := by
  intro T hT X
  obtain ⟨t, st, q⟩ := k T hT X
  exact ⟨t, X.sastoreNull hexec (g := F0 m pc ls (.int x :: .int i :: .null :: rest)) rfl (rest := rest) rfl (by rw [hb]; exact hdg) t st, q⟩
theorem vx_invokeN {own C : String} {index maxL : Nat} {y : MethodName} {bytes : ByteArray} {ret : Option FieldType} (hexec : p.tables.exec = Jvm.exec) (hb : c.code = cc) (hown : s.vm.findClass own = some m.cls) (hlink : (Cond.methodLink own index y).before args s = true) (hinst : (Cond.instanceMethod y).before args s = true) (hcode : (Cond.code y bytes maxL ret).before args s = true) (hsel : (Cond.selects C y y).before args s = true)
    (hx : y.cls ≠ "java/lang/invoke/MethodHandle" ∧ y.cls ≠ "java/lang/invoke/VarHandle") {As : List Value} (hlen : (parseMethodDescriptor y.desc).map (fun d => d.parameters.length) = some As.length) (hdg : decode cc pc = .ok (.invokevirtual index, 3))
    (k : vx_NoteN p l e R s m args below meth c H locs cells slots Q (F0 m pc ls rest)) {st0 : List Value} (hst : st0 = As.reverse ++ .null :: rest) : W p l e R s m args below meth c H locs cells slots Q (F0 m pc ls st0) := by
  intro T hT X
  obtain ⟨r0, r, hn, hrm, hstR, hsigR⟩ := va_Decl.of hinst hcode
  obtain ⟨c2, r2, m2, q1, q2, q3, q4, kP, hkP, hkPi⟩ := Cond.selects_spec hsel
  cases hn.symm.trans q3
  have hl9 : As.length = r.sig.parameters.length := by
    rw [hsigR] at hlen
    exact (Option.some.inj hlen).symm
  obtain ⟨vm', X1, st1⟩ := X.invokevirtualNull hexec hown hlink hn hrm hstR hkP hkPi hx (g := F0 m pc ls st0) rfl (argsL := As) (rest := rest) hl9 hst (by rw [hb]; exact hdg)
  obtain ⟨t, st, q⟩ := k (T.setVm vm') hT X1
  exact ⟨t, st1 t st, q⟩
theorem vx_newarrayZ {atype : ArrayType} (hexec : p.tables.exec = Jvm.exec) (hb : c.code = cc) {n : Int32} (h0 : n < 0) (hdg : decode cc pc = .ok (.newarray atype, 2)) (k : ∀ tx : String, tx = toString n → vx_Note p l e R s m args below meth c H locs cells slots Q (F0 m pc ls rest) "java/lang/NegativeArraySizeException" tx) : W p l e R s m args below meth c H locs cells slots Q (F0 m pc ls (.int n :: rest)) := by
  intro T hT X
  obtain ⟨t, st, q⟩ := k _ rfl T hT X
  exact ⟨t, X.newarrayNegative hexec (g := F0 m pc ls (.int n :: rest)) rfl h0 (rest := rest) rfl (by rw [hb]; exact hdg) t st, q⟩
end
end VXM
/-! ===== END ===== -/
end
section
/-! ===== BEGIN printed: names, fields, word lists, decode rows ===== -/
def RX0 : String := "AnswerSums$Core"
def TX0 : u_T := fun k => match k with
  | 0 => ("AnswerSums$Core", "tasks", "Ljava/util/ArrayList;", true)
  | 1 => ("AnswerSums$Core", "interrupts", "Ljava/util/ArrayList;", true)
  | _ => ("AnswerSums$Core", "ceilings", "[I", true)
def tyX0 : Nat → FieldType := fun k => match k with
  | 0 => .object "java/util/ArrayList"
  | 1 => .object "java/util/ArrayList"
  | _ => .array .int
abbrev wsX00 : List Cond := u_ws RX0 TX0 3
theorem nmX0 : ∀ a, a < 3 → ∀ b, b < 3 → a ≠ b → (TX0 a).2.1 ≠ (TX0 b).2.1 := by decide +kernel
theorem tyX0_ok : ∀ k, k < 3 → parseFieldDescriptor (TX0 k).2.2.1 = some (tyX0 k) := by decide +kernel
abbrev cX0_init : ByteArray := prog_2_method_1_code
def yX0_init : MethodName := ⟨RX0, "<init>", "()V"⟩
abbrev cX0_taskOf : ByteArray := prog_2_method_2_code
def yX0_taskOf : MethodName := ⟨RX0, "taskOf", "(I)LAnswerSums$Task;"⟩
abbrev cX0_raiseCeiling : ByteArray := prog_2_method_3_code
def yX0_raiseCeiling : MethodName := ⟨RX0, "raiseCeiling", "(II)V"⟩
abbrev cX0_ceilingOf : ByteArray := prog_2_method_4_code
def yX0_ceilingOf : MethodName := ⟨RX0, "ceilingOf", "(I)I"⟩
abbrev cX0_blockingOf : ByteArray := prog_2_method_5_code
def yX0_blockingOf : MethodName := ⟨RX0, "blockingOf", "(LAnswerSums$Task;)J"⟩
abbrev cX0_longestSection : ByteArray := prog_2_method_6_code
def yX0_longestSection : MethodName := ⟨RX0, "longestSection", "(LAnswerSums$Task;I)J"⟩
abbrev cX0_partAbove : ByteArray := prog_2_method_7_code
def yX0_partAbove : MethodName := ⟨RX0, "partAbove", "(LAnswerSums$Task;I)LAnswerSums$Part;"⟩
abbrev cX0_takenAbove : ByteArray := prog_2_method_8_code
def yX0_takenAbove : MethodName := ⟨RX0, "takenAbove", "(LAnswerSums$Task;J)J"⟩
abbrev cX0_leastShareAbove : ByteArray := prog_2_method_9_code
def yX0_leastShareAbove : MethodName := ⟨RX0, "leastShareAbove", "(LAnswerSums$Task;)J"⟩
abbrev cX0_find : ByteArray := prog_2_method_10_code
def yX0_find : MethodName := ⟨RX0, "find", "(LAnswerSums$Task;LAnswerSums$Finding;)V"⟩
abbrev cX0_spanFrom : ByteArray := prog_2_method_11_code
def yX0_spanFrom : MethodName := ⟨RX0, "spanFrom", "(LAnswerSums$Task;JJJ)J"⟩
abbrev cX0_wholeLoad : ByteArray := prog_2_method_12_code
def yX0_wholeLoad : MethodName := ⟨RX0, "wholeLoad", "()J"⟩
abbrev cX0_mayBeRun : ByteArray := prog_2_method_13_code
def yX0_mayBeRun : MethodName := ⟨RX0, "mayBeRun", "()Z"⟩
abbrev cX0_tellsAnyPhase : ByteArray := prog_2_method_14_code
def yX0_tellsAnyPhase : MethodName := ⟨RX0, "tellsAnyPhase", "()Z"⟩
def RX1 : String := "AnswerSums$Finding"
def TX1 : u_T := fun k => match k with
  | 0 => ("AnswerSums$Finding", "known", "Z", false)
  | 1 => ("AnswerSums$Finding", "answer", "J", false)
  | 2 => ("AnswerSums$Finding", "turn", "I", false)
  | _ => ("AnswerSums$Finding", "span", "J", false)
def tyX1 : Nat → FieldType := fun k => match k with
  | 0 => .boolean
  | 1 => .long
  | 2 => .int
  | _ => .long
abbrev wsX10 : List Cond := u_ws RX1 TX1 4
theorem nmX1 : ∀ a, a < 4 → ∀ b, b < 4 → a ≠ b → (TX1 a).2.1 ≠ (TX1 b).2.1 := by decide +kernel
theorem tyX1_ok : ∀ k, k < 4 → parseFieldDescriptor (TX1 k).2.2.1 = some (tyX1 k) := by decide +kernel
abbrev cX1_init : ByteArray := prog_3_method_1_code
def yX1_init : MethodName := ⟨RX1, "<init>", "()V"⟩
abbrev cX1_start : ByteArray := prog_3_method_2_code
def yX1_start : MethodName := ⟨RX1, "start", "()V"⟩
abbrev cX1_tell : ByteArray := prog_3_method_3_code
def yX1_tell : MethodName := ⟨RX1, "tell", "(JIJ)V"⟩
def RX2 : String := "AnswerSums$Part"
def TX2 : u_T := fun k => match k with
  | 0 => ("AnswerSums$Part", "sign", "I", true)
  | 1 => ("AnswerSums$Part", "period", "J", true)
  | 2 => ("AnswerSums$Part", "own", "J", false)
  | 3 => ("AnswerSums$Part", "spin", "J", false)
  | 4 => ("AnswerSums$Part", "jitter", "J", false)
  | 5 => ("AnswerSums$Part", "inner", "J", false)
  | _ => ("AnswerSums$Part", "atATime", "I", false)
def tyX2 : Nat → FieldType := fun k => match k with
  | 0 => .int
  | 1 => .long
  | 2 => .long
  | 3 => .long
  | 4 => .long
  | 5 => .long
  | _ => .int
abbrev wsX20 : List Cond := u_ws RX2 TX2 7
theorem nmX2 : ∀ a, a < 7 → ∀ b, b < 7 → a ≠ b → (TX2 a).2.1 ≠ (TX2 b).2.1 := by decide +kernel
theorem tyX2_ok : ∀ k, k < 7 → parseFieldDescriptor (TX2 k).2.2.1 = some (tyX2 k) := by decide +kernel
abbrev cX2_init : ByteArray := prog_4_method_1_code
def yX2_init : MethodName := ⟨RX2, "<init>", "(IJJ)V"⟩
abbrev cX2_cost : ByteArray := prog_4_method_2_code
def yX2_cost : MethodName := ⟨RX2, "cost", "()J"⟩
abbrev cX2_activationsIn : ByteArray := prog_4_method_3_code
def yX2_activationsIn : MethodName := ⟨RX2, "activationsIn", "(J)J"⟩
abbrev cX2_laterOf : ByteArray := prog_4_method_4_code
def yX2_laterOf : MethodName := ⟨RX2, "laterOf", "(I)J"⟩
abbrev cX2_load : ByteArray := prog_4_method_5_code
def yX2_load : MethodName := ⟨RX2, "load", "()J"⟩
abbrev cX2_leastShare : ByteArray := prog_4_method_6_code
def yX2_leastShare : MethodName := ⟨RX2, "leastShare", "()J"⟩
def RX3 : String := "AnswerSums$Phases"
def TX3 : u_T := fun k => match k with
  | 0 => ("AnswerSums$Phases", "known", "Z", false)
  | 1 => ("AnswerSums$Phases", "count", "I", false)
  | 2 => ("AnswerSums$Phases", "end", "I", false)
  | 3 => ("AnswerSums$Phases", "longest", "[J", true)
  | 4 => ("AnswerSums$Phases", "rank", "[I", true)
  | 5 => ("AnswerSums$Phases", "own", "[J", true)
  | 6 => ("AnswerSums$Phases", "period", "[J", true)
  | 7 => ("AnswerSums$Phases", "told", "[J", true)
  | 8 => ("AnswerSums$Phases", "oldest", "[J", true)
  | _ => ("AnswerSums$Phases", "left", "[J", true)
def tyX3 : Nat → FieldType := fun k => match k with
  | 0 => .boolean
  | 1 => .int
  | 2 => .int
  | 3 => .array .long
  | 4 => .array .int
  | 5 => .array .long
  | 6 => .array .long
  | 7 => .array .long
  | 8 => .array .long
  | _ => .array .long
abbrev wsX30 : List Cond := u_ws RX3 TX3 10
theorem nmX3 : ∀ a, a < 10 → ∀ b, b < 10 → a ≠ b → (TX3 a).2.1 ≠ (TX3 b).2.1 := by decide +kernel
theorem tyX3_ok : ∀ k, k < 10 → parseFieldDescriptor (TX3 k).2.2.1 = some (tyX3 k) := by decide +kernel
abbrev cX3_init : ByteArray := prog_5_method_1_code
def yX3_init : MethodName := ⟨RX3, "<init>", "()V"⟩
abbrev cX3_longestOf : ByteArray := prog_5_method_2_code
def yX3_longestOf : MethodName := ⟨RX3, "longestOf", "(I)J"⟩
abbrev cX3_runAll : ByteArray := prog_5_method_3_code
def yX3_runAll : MethodName := ⟨RX3, "runAll", "(Ljava/util/ArrayList;)V"⟩
abbrev cX3_take : ByteArray := prog_5_method_4_code
def yX3_take : MethodName := ⟨RX3, "take", "(Ljava/util/ArrayList;)V"⟩
abbrev cX3_leastCommonMultiple : ByteArray := prog_5_method_5_code
def yX3_leastCommonMultiple : MethodName := ⟨RX3, "leastCommonMultiple", "(JJ)J"⟩
abbrev cX3_start : ByteArray := prog_5_method_6_code
def yX3_start : MethodName := ⟨RX3, "start", "(J)V"⟩
abbrev cX3_run : ByteArray := prog_5_method_7_code
def yX3_run : MethodName := ⟨RX3, "run", "()V"⟩
abbrev cX3_hasMore : ByteArray := prog_5_method_8_code
def yX3_hasMore : MethodName := ⟨RX3, "hasMore", "()Z"⟩
abbrev cX3_chosenAt : ByteArray := prog_5_method_9_code
def yX3_chosenAt : MethodName := ⟨RX3, "chosenAt", "(I)I"⟩
abbrev cX3_goesBefore : ByteArray := prog_5_method_10_code
def yX3_goesBefore : MethodName := ⟨RX3, "goesBefore", "(II)Z"⟩
abbrev cX3_work : ByteArray := prog_5_method_11_code
def yX3_work : MethodName := ⟨RX3, "work", "(II)V"⟩
def RX4 : String := "AnswerSums$Task"
def TX4 : u_T := fun k => match k with
  | 0 => ("AnswerSums$Part", "sign", "I", true)
  | 1 => ("AnswerSums$Part", "period", "J", true)
  | 2 => ("AnswerSums$Part", "own", "J", false)
  | 3 => ("AnswerSums$Part", "spin", "J", false)
  | 4 => ("AnswerSums$Part", "jitter", "J", false)
  | 5 => ("AnswerSums$Part", "inner", "J", false)
  | 6 => ("AnswerSums$Part", "atATime", "I", false)
  | 7 => ("AnswerSums$Task", "rank", "I", true)
  | 8 => ("AnswerSums$Task", "resources", "[I", true)
  | 9 => ("AnswerSums$Task", "lengths", "[J", true)
  | 10 => ("AnswerSums$Task", "finding", "LAnswerSums$Finding;", true)
  | 11 => ("AnswerSums$Task", "sections", "I", false)
  | _ => ("AnswerSums$Task", "phase", "J", false)
def tyX4 : Nat → FieldType := fun k => match k with
  | 0 => .int
  | 1 => .long
  | 2 => .long
  | 3 => .long
  | 4 => .long
  | 5 => .long
  | 6 => .int
  | 7 => .int
  | 8 => .array .int
  | 9 => .array .long
  | 10 => .object "AnswerSums$Finding"
  | 11 => .int
  | _ => .long
abbrev wsX40 : List Cond := u_ws RX4 TX4 13
theorem nmX4 : ∀ a, a < 13 → ∀ b, b < 13 → a ≠ b → (TX4 a).2.1 ≠ (TX4 b).2.1 := by decide +kernel
theorem tyX4_ok : ∀ k, k < 13 → parseFieldDescriptor (TX4 k).2.2.1 = some (tyX4 k) := by decide +kernel
abbrev cX4_init : ByteArray := prog_6_method_1_code
def yX4_init : MethodName := ⟨RX4, "<init>", "(IJJI)V"⟩
abbrev cX4_addSection : ByteArray := prog_6_method_2_code
def yX4_addSection : MethodName := ⟨RX4, "addSection", "(IJ)V"⟩
abbrev cX4_isAbove : ByteArray := prog_6_method_3_code
def yX4_isAbove : MethodName := ⟨RX4, "isAbove", "(LAnswerSums$Task;)Z"⟩
abbrev cX4_isPlain : ByteArray := prog_6_method_4_code
def yX4_isPlain : MethodName := ⟨RX4, "isPlain", "()Z"⟩
abbrev cX4_tellsPhase : ByteArray := prog_6_method_5_code
def yX4_tellsPhase : MethodName := ⟨RX4, "tellsPhase", "()Z"⟩
def RX5 : String := "AnswerSums"
def TX5 : u_T := fun k => match k with
  | 0 => ("AnswerSums", "core", "LAnswerSums$Core;", true)
  | 1 => ("AnswerSums", "phases", "LAnswerSums$Phases;", true)
  | _ => ("AnswerSums", "trial", "LAnswerSums$Finding;", true)
def tyX5 : Nat → FieldType := fun k => match k with
  | 0 => .object "AnswerSums$Core"
  | 1 => .object "AnswerSums$Phases"
  | _ => .object "AnswerSums$Finding"
abbrev wsX50 : List Cond := u_ws RX5 TX5 3
theorem nmX5 : ∀ a, a < 3 → ∀ b, b < 3 → a ≠ b → (TX5 a).2.1 ≠ (TX5 b).2.1 := by decide +kernel
theorem tyX5_ok : ∀ k, k < 3 → parseFieldDescriptor (TX5 k).2.2.1 = some (tyX5 k) := by decide +kernel
abbrev cX5_init : ByteArray := prog_1_method_1_code
def yX5_init : MethodName := ⟨RX5, "<init>", "()V"⟩
abbrev cX5_task : ByteArray := prog_1_method_2_code
def yX5_task : MethodName := ⟨RX5, "task", "(JJI)I"⟩
abbrev cX5_jitter : ByteArray := prog_1_method_3_code
def yX5_jitter : MethodName := ⟨RX5, "jitter", "(IJ)I"⟩
abbrev cX5_burst : ByteArray := prog_1_method_4_code
def yX5_burst : MethodName := ⟨RX5, "burst", "(IIJ)I"⟩
abbrev cX5_section : ByteArray := prog_1_method_5_code
def yX5_section : MethodName := ⟨RX5, "section", "(IIJ)I"⟩
abbrev cX5_offset : ByteArray := prog_1_method_6_code
def yX5_offset : MethodName := ⟨RX5, "offset", "(IJ)I"⟩
abbrev cX5_answer : ByteArray := prog_1_method_7_code
def yX5_answer : MethodName := ⟨RX5, "answer", "(I)J"⟩
abbrev cX5_reason : ByteArray := prog_1_method_8_code
def yX5_reason : MethodName := ⟨RX5, "reason", "(III)I"⟩
abbrev cX5_longer : ByteArray := prog_1_method_9_code
def yX5_longer : MethodName := ⟨RX5, "longer", "(I)J"⟩
abbrev cX5_busy : ByteArray := prog_1_method_10_code
def yX5_busy : MethodName := ⟨RX5, "busy", "(I)J"⟩
abbrev cX5_plain : ByteArray := prog_1_method_11_code
def yX5_plain : MethodName := ⟨RX5, "plain", "(I)Z"⟩
abbrev cX5_interrupt : ByteArray := prog_1_method_12_code
def yX5_interrupt : MethodName := ⟨RX5, "interrupt", "(JJ)I"⟩
abbrev cX5_spin : ByteArray := prog_1_method_13_code
def yX5_spin : MethodName := ⟨RX5, "spin", "(IJ)I"⟩
abbrev cX5_isLength : ByteArray := prog_1_method_14_code
def yX5_isLength : MethodName := ⟨RX5, "isLength", "(J)Z"⟩
abbrev cX5_isPeriod : ByteArray := prog_1_method_15_code
def yX5_isPeriod : MethodName := ⟨RX5, "isPeriod", "(J)Z"⟩
abbrev cX5_upwards : ByteArray := prog_1_method_16_code
def yX5_upwards : MethodName := ⟨RX5, "upwards", "(JJ)J"⟩
abbrev cX5_whole : ByteArray := prog_1_method_17_code
def yX5_whole : MethodName := ⟨RX5, "whole", "(JJ)J"⟩
abbrev cX5_forgetFindings : ByteArray := prog_1_method_18_code
def yX5_forgetFindings : MethodName := ⟨RX5, "forgetFindings", "()V"⟩
abbrev cX5_findingOf : ByteArray := prog_1_method_19_code
def yX5_findingOf : MethodName := ⟨RX5, "findingOf", "(LAnswerSums$Task;)LAnswerSums$Finding;"⟩
abbrev cX5_rowOfItself : ByteArray := prog_1_method_20_code
def yX5_rowOfItself : MethodName := ⟨RX5, "rowOfItself", "(LAnswerSums$Task;II)J"⟩
abbrev cX5_rowOfPart : ByteArray := prog_1_method_21_code
def yX5_rowOfPart : MethodName := ⟨RX5, "rowOfPart", "(LAnswerSums$Part;JI)J"⟩
abbrev cX5_allHaveAnswers : ByteArray := prog_1_method_22_code
def yX5_allHaveAnswers : MethodName := ⟨RX5, "allHaveAnswers", "()Z"⟩
def RX6 : String := "AnswerSumsModel"
def TX6 : u_T := fun k => match k with
  | 0 => ("AnswerSumsModel", "own", "[J", true)
  | 1 => ("AnswerSumsModel", "period", "[J", true)
  | 2 => ("AnswerSumsModel", "rank", "[I", true)
  | 3 => ("AnswerSumsModel", "late", "[J", true)
  | 4 => ("AnswerSumsModel", "many", "[I", true)
  | 5 => ("AnswerSumsModel", "inner", "[J", true)
  | 6 => ("AnswerSumsModel", "spin", "[J", true)
  | 7 => ("AnswerSumsModel", "phase", "[J", true)
  | 8 => ("AnswerSumsModel", "held", "[I", true)
  | 9 => ("AnswerSumsModel", "resources", "[I", true)
  | 10 => ("AnswerSumsModel", "lengths", "[J", true)
  | 11 => ("AnswerSumsModel", "tasks", "I", false)
  | 12 => ("AnswerSumsModel", "shortOwn", "[J", true)
  | 13 => ("AnswerSumsModel", "shortPeriod", "[J", true)
  | 14 => ("AnswerSumsModel", "interrupts", "I", false)
  | 15 => ("AnswerSumsModel", "span", "J", false)
  | 16 => ("AnswerSumsModel", "turn", "I", false)
  | 17 => ("AnswerSumsModel", "from", "[J", true)
  | 18 => ("AnswerSumsModel", "done", "[J", true)
  | 19 => ("AnswerSumsModel", "left", "[J", true)
  | 20 => ("AnswerSumsModel", "begun", "[Z", true)
  | _ => ("AnswerSumsModel", "thrown", "I", false)
def tyX6 : Nat → FieldType := fun k => match k with
  | 0 => .array .long
  | 1 => .array .long
  | 2 => .array .int
  | 3 => .array .long
  | 4 => .array .int
  | 5 => .array .long
  | 6 => .array .long
  | 7 => .array .long
  | 8 => .array .int
  | 9 => .array .int
  | 10 => .array .long
  | 11 => .int
  | 12 => .array .long
  | 13 => .array .long
  | 14 => .int
  | 15 => .long
  | 16 => .int
  | 17 => .array .long
  | 18 => .array .long
  | 19 => .array .long
  | 20 => .array .boolean
  | _ => .int
abbrev wsX60 : List Cond := u_ws RX6 TX6 22
theorem nmX6 : ∀ a, a < 22 → ∀ b, b < 22 → a ≠ b → (TX6 a).2.1 ≠ (TX6 b).2.1 := by decide +kernel
theorem tyX6_ok : ∀ k, k < 22 → parseFieldDescriptor (TX6 k).2.2.1 = some (tyX6 k) := by decide +kernel
abbrev cX6_init : ByteArray := prog_8_method_1_code
def yX6_init : MethodName := ⟨RX6, "<init>", "()V"⟩
abbrev cX6_thrown : ByteArray := prog_8_method_2_code
def yX6_thrown : MethodName := ⟨RX6, "thrown", "()I"⟩
abbrev cX6_isTask : ByteArray := prog_8_method_3_code
def yX6_isTask : MethodName := ⟨RX6, "isTask", "(I)Z"⟩
abbrev cX6_within : ByteArray := prog_8_method_4_code
def yX6_within : MethodName := ⟨RX6, "within", "(JJJ)Z"⟩
abbrev cX6_task : ByteArray := prog_8_method_5_code
def yX6_task : MethodName := ⟨RX6, "task", "(JJI)I"⟩
abbrev cX6_jitter : ByteArray := prog_8_method_6_code
def yX6_jitter : MethodName := ⟨RX6, "jitter", "(IJ)I"⟩
abbrev cX6_burst : ByteArray := prog_8_method_7_code
def yX6_burst : MethodName := ⟨RX6, "burst", "(IIJ)I"⟩
abbrev cX6_section : ByteArray := prog_8_method_8_code
def yX6_section : MethodName := ⟨RX6, "section", "(IIJ)I"⟩
abbrev cX6_offset : ByteArray := prog_8_method_9_code
def yX6_offset : MethodName := ⟨RX6, "offset", "(IJ)I"⟩
abbrev cX6_interrupt : ByteArray := prog_8_method_10_code
def yX6_interrupt : MethodName := ⟨RX6, "interrupt", "(JJ)I"⟩
abbrev cX6_spin : ByteArray := prog_8_method_11_code
def yX6_spin : MethodName := ⟨RX6, "spin", "(IJ)I"⟩
abbrev cX6_upwards : ByteArray := prog_8_method_12_code
def yX6_upwards : MethodName := ⟨RX6, "upwards", "(JJ)J"⟩
abbrev cX6_comes : ByteArray := prog_8_method_13_code
def yX6_comes : MethodName := ⟨RX6, "comes", "(IJ)J"⟩
abbrev cX6_cost : ByteArray := prog_8_method_14_code
def yX6_cost : MethodName := ⟨RX6, "cost", "(I)J"⟩
abbrev cX6_later : ByteArray := prog_8_method_15_code
def yX6_later : MethodName := ⟨RX6, "later", "(II)J"⟩
abbrev cX6_reaches : ByteArray := prog_8_method_16_code
def yX6_reaches : MethodName := ⟨RX6, "reaches", "(II)Z"⟩
abbrev cX6_blocking : ByteArray := prog_8_method_17_code
def yX6_blocking : MethodName := ⟨RX6, "blocking", "(I)J"⟩
abbrev cX6_need : ByteArray := prog_8_method_18_code
def yX6_need : MethodName := ⟨RX6, "need", "(IIJJ)J"⟩
abbrev cX6_search : ByteArray := prog_8_method_19_code
def yX6_search : MethodName := ⟨RX6, "search", "(I)J"⟩
abbrev cX6_answer : ByteArray := prog_8_method_20_code
def yX6_answer : MethodName := ⟨RX6, "answer", "(I)J"⟩
abbrev cX6_reason : ByteArray := prog_8_method_21_code
def yX6_reason : MethodName := ⟨RX6, "reason", "(III)I"⟩
abbrev cX6_allAnswer : ByteArray := prog_8_method_22_code
def yX6_allAnswer : MethodName := ⟨RX6, "allAnswer", "()Z"⟩
abbrev cX6_longer : ByteArray := prog_8_method_23_code
def yX6_longer : MethodName := ⟨RX6, "longer", "(I)J"⟩
abbrev cX6_load : ByteArray := prog_8_method_24_code
def yX6_load : MethodName := ⟨RX6, "load", "()J"⟩
abbrev cX6_busy : ByteArray := prog_8_method_25_code
def yX6_busy : MethodName := ⟨RX6, "busy", "(I)J"⟩
abbrev cX6_common : ByteArray := prog_8_method_26_code
def yX6_common : MethodName := ⟨RX6, "common", "(JJ)J"⟩
abbrev cX6_longest : ByteArray := prog_8_method_27_code
def yX6_longest : MethodName := ⟨RX6, "longest", "(IJ)J"⟩
abbrev cX6_plain : ByteArray := prog_8_method_28_code
def yX6_plain : MethodName := ⟨RX6, "plain", "(I)Z"⟩
def RJx145de : String := "java/io/Serializable"
def TJx145de : u_T := fun k => match k with
  | _ => ("", "", "", false)
def tyJx145de : Nat → FieldType := fun k => match k with
  | _ => .int
abbrev wsJx145de0 : List Cond := u_ws RJx145de TJx145de 0
theorem nmJx145de : ∀ a, a < 0 → ∀ b, b < 0 → a ≠ b → (TJx145de a).2.1 ≠ (TJx145de b).2.1 := by decide +kernel
theorem tyJx145de_ok : ∀ k, k < 0 → parseFieldDescriptor (TJx145de k).2.2.1 = some (tyJx145de k) := by decide +kernel
def RJx8e188 : String := "java/lang/Cloneable"
def TJx8e188 : u_T := fun k => match k with
  | _ => ("", "", "", false)
def tyJx8e188 : Nat → FieldType := fun k => match k with
  | _ => .int
abbrev wsJx8e1880 : List Cond := u_ws RJx8e188 TJx8e188 0
theorem nmJx8e188 : ∀ a, a < 0 → ∀ b, b < 0 → a ≠ b → (TJx8e188 a).2.1 ≠ (TJx8e188 b).2.1 := by decide +kernel
theorem tyJx8e188_ok : ∀ k, k < 0 → parseFieldDescriptor (TJx8e188 k).2.2.1 = some (tyJx8e188 k) := by decide +kernel
def RJxab1ab : String := "java/lang/Iterable"
def TJxab1ab : u_T := fun k => match k with
  | _ => ("", "", "", false)
def tyJxab1ab : Nat → FieldType := fun k => match k with
  | _ => .int
abbrev wsJxab1ab0 : List Cond := u_ws RJxab1ab TJxab1ab 0
theorem nmJxab1ab : ∀ a, a < 0 → ∀ b, b < 0 → a ≠ b → (TJxab1ab a).2.1 ≠ (TJxab1ab b).2.1 := by decide +kernel
theorem tyJxab1ab_ok : ∀ k, k < 0 → parseFieldDescriptor (TJxab1ab k).2.2.1 = some (tyJxab1ab k) := by decide +kernel
def RJ9 : String := "java/lang/Math"
def TJ9 : u_T := fun k => match k with
  | _ => ("", "", "", false)
def tyJ9 : Nat → FieldType := fun k => match k with
  | _ => .int
abbrev wsJ90 : List Cond := u_ws RJ9 TJ9 0
theorem nmJ9 : ∀ a, a < 0 → ∀ b, b < 0 → a ≠ b → (TJ9 a).2.1 ≠ (TJ9 b).2.1 := by decide +kernel
theorem tyJ9_ok : ∀ k, k < 0 → parseFieldDescriptor (TJ9 k).2.2.1 = some (tyJ9 k) := by decide +kernel
abbrev cJ9_max_7cf53 : ByteArray := prog_14_method_65_code
def yJ9_max_7cf53 : MethodName := ⟨RJ9, "max", "(II)I"⟩
abbrev cJ9_max_f86c9 : ByteArray := prog_14_method_66_code
def yJ9_max_f86c9 : MethodName := ⟨RJ9, "max", "(JJ)J"⟩
abbrev cJ9_min_7cf53 : ByteArray := prog_14_method_69_code
def yJ9_min_7cf53 : MethodName := ⟨RJ9, "min", "(II)I"⟩
abbrev cJ9_min_f86c9 : ByteArray := prog_14_method_70_code
def yJ9_min_f86c9 : MethodName := ⟨RJ9, "min", "(JJ)J"⟩
def RJ0 : String := "java/lang/String"
def TJ0 : u_T := fun k => match k with
  | 0 => ("java/lang/String", "value", "[B", true)
  | _ => ("java/lang/String", "coder", "B", true)
def tyJ0 : Nat → FieldType := fun k => match k with
  | 0 => .array .byte
  | _ => .byte
abbrev wsJ00 : List Cond := u_ws RJ0 TJ0 2
theorem nmJ0 : ∀ a, a < 2 → ∀ b, b < 2 → a ≠ b → (TJ0 a).2.1 ≠ (TJ0 b).2.1 := by decide +kernel
theorem tyJ0_ok : ∀ k, k < 2 → parseFieldDescriptor (TJ0 k).2.2.1 = some (tyJ0 k) := by decide +kernel
def RJ10 : String := "java/lang/System"
def TJ10 : u_T := fun k => match k with
  | _ => ("", "", "", false)
def tyJ10 : Nat → FieldType := fun k => match k with
  | _ => .int
abbrev wsJ100 : List Cond := u_ws RJ10 TJ10 0
theorem nmJ10 : ∀ a, a < 0 → ∀ b, b < 0 → a ≠ b → (TJ10 a).2.1 ≠ (TJ10 b).2.1 := by decide +kernel
theorem tyJ10_ok : ∀ k, k < 0 → parseFieldDescriptor (TJ10 k).2.2.1 = some (tyJ10 k) := by decide +kernel
def RJxa1e45 : String := "java/util/AbstractCollection"
def TJxa1e45 : u_T := fun k => match k with
  | _ => ("", "", "", false)
def tyJxa1e45 : Nat → FieldType := fun k => match k with
  | _ => .int
abbrev wsJxa1e450 : List Cond := u_ws RJxa1e45 TJxa1e45 0
theorem nmJxa1e45 : ∀ a, a < 0 → ∀ b, b < 0 → a ≠ b → (TJxa1e45 a).2.1 ≠ (TJxa1e45 b).2.1 := by decide +kernel
theorem tyJxa1e45_ok : ∀ k, k < 0 → parseFieldDescriptor (TJxa1e45 k).2.2.1 = some (tyJxa1e45 k) := by decide +kernel
abbrev cJxa1e45_init_da8c8 : ByteArray := prog_19_method_1_code
def yJxa1e45_init_da8c8 : MethodName := ⟨RJxa1e45, "<init>", "()V"⟩
def RJxc12de : String := "java/util/AbstractList"
def TJxc12de : u_T := fun k => match k with
  | _ => ("", "", "", false)
def tyJxc12de : Nat → FieldType := fun k => match k with
  | _ => .int
abbrev wsJxc12de0 : List Cond := u_ws RJxc12de TJxc12de 0
theorem nmJxc12de : ∀ a, a < 0 → ∀ b, b < 0 → a ≠ b → (TJxc12de a).2.1 ≠ (TJxc12de b).2.1 := by decide +kernel
theorem tyJxc12de_ok : ∀ k, k < 0 → parseFieldDescriptor (TJxc12de k).2.2.1 = some (tyJxc12de k) := by decide +kernel
abbrev cJxc12de_init_da8c8 : ByteArray := prog_20_method_1_code
def yJxc12de_init_da8c8 : MethodName := ⟨RJxc12de, "<init>", "()V"⟩
def RJx4a65c : String := "java/util/ArrayList"
def TJx4a65c : u_T := fun k => match k with
  | 0 => ("java/util/AbstractList", "modCount", "I", false)
  | 1 => ("java/util/ArrayList", "elementData", "[Ljava/lang/Object;", false)
  | _ => ("java/util/ArrayList", "size", "I", false)
def tyJx4a65c : Nat → FieldType := fun k => match k with
  | 0 => .int
  | 1 => .array (.object "java/lang/Object")
  | _ => .int
abbrev wsJx4a65c0 : List Cond := u_ws RJx4a65c TJx4a65c 3
theorem nmJx4a65c : ∀ a, a < 3 → ∀ b, b < 3 → a ≠ b → (TJx4a65c a).2.1 ≠ (TJx4a65c b).2.1 := by decide +kernel
theorem tyJx4a65c_ok : ∀ k, k < 3 → parseFieldDescriptor (TJx4a65c k).2.2.1 = some (tyJx4a65c k) := by decide +kernel
abbrev cJx4a65c_init_da8c8 : ByteArray := prog_21_method_2_code
def yJx4a65c_init_da8c8 : MethodName := ⟨RJx4a65c, "<init>", "()V"⟩
abbrev cJx4a65c_grow_92f84 : ByteArray := prog_21_method_6_code
def yJx4a65c_grow_92f84 : MethodName := ⟨RJx4a65c, "grow", "(I)[Ljava/lang/Object;"⟩
abbrev cJx4a65c_grow_d5877 : ByteArray := prog_21_method_7_code
def yJx4a65c_grow_d5877 : MethodName := ⟨RJx4a65c, "grow", "()[Ljava/lang/Object;"⟩
abbrev cJx4a65c_size_8abf5 : ByteArray := prog_21_method_8_code
def yJx4a65c_size_8abf5 : MethodName := ⟨RJx4a65c, "size", "()I"⟩
abbrev cJx4a65c_isEmpty_aae02 : ByteArray := prog_21_method_9_code
def yJx4a65c_isEmpty_aae02 : MethodName := ⟨RJx4a65c, "isEmpty", "()Z"⟩
abbrev cJx4a65c_elementData_915e3 : ByteArray := prog_21_method_18_code
def yJx4a65c_elementData_915e3 : MethodName := ⟨RJx4a65c, "elementData", "(I)Ljava/lang/Object;"⟩
abbrev cJx4a65c_get_915e3 : ByteArray := prog_21_method_20_code
def yJx4a65c_get_915e3 : MethodName := ⟨RJx4a65c, "get", "(I)Ljava/lang/Object;"⟩
abbrev cJx4a65c_add_72be8 : ByteArray := prog_21_method_24_code
def yJx4a65c_add_72be8 : MethodName := ⟨RJx4a65c, "add", "(Ljava/lang/Object;[Ljava/lang/Object;I)V"⟩
abbrev cJx4a65c_add_9ea2d : ByteArray := prog_21_method_25_code
def yJx4a65c_add_9ea2d : MethodName := ⟨RJx4a65c, "add", "(Ljava/lang/Object;)Z"⟩
def RJ7 : String := "java/util/Arrays"
def TJ7 : u_T := fun k => match k with
  | _ => ("", "", "", false)
def tyJ7 : Nat → FieldType := fun k => match k with
  | _ => .int
abbrev wsJ70 : List Cond := u_ws RJ7 TJ7 0
theorem nmJ7 : ∀ a, a < 0 → ∀ b, b < 0 → a ≠ b → (TJ7 a).2.1 ≠ (TJ7 b).2.1 := by decide +kernel
theorem tyJ7_ok : ∀ k, k < 0 → parseFieldDescriptor (TJ7 k).2.2.1 = some (tyJ7 k) := by decide +kernel
abbrev cJ7_copyOf_1904c : ByteArray := prog_22_method_119_code
def yJ7_copyOf_1904c : MethodName := ⟨RJ7, "copyOf", "([Ljava/lang/Object;I)[Ljava/lang/Object;"⟩
abbrev cJ7_copyOf_6403c : ByteArray := prog_22_method_120_code
def yJ7_copyOf_6403c : MethodName := ⟨RJ7, "copyOf", "([Ljava/lang/Object;ILjava/lang/Class;)[Ljava/lang/Object;"⟩
def RJx5ef63 : String := "java/util/Collection"
def TJx5ef63 : u_T := fun k => match k with
  | _ => ("", "", "", false)
def tyJx5ef63 : Nat → FieldType := fun k => match k with
  | _ => .int
abbrev wsJx5ef630 : List Cond := u_ws RJx5ef63 TJx5ef63 0
theorem nmJx5ef63 : ∀ a, a < 0 → ∀ b, b < 0 → a ≠ b → (TJx5ef63 a).2.1 ≠ (TJx5ef63 b).2.1 := by decide +kernel
theorem tyJx5ef63_ok : ∀ k, k < 0 → parseFieldDescriptor (TJx5ef63 k).2.2.1 = some (tyJx5ef63 k) := by decide +kernel
def RJxbd725 : String := "java/util/List"
def TJxbd725 : u_T := fun k => match k with
  | _ => ("", "", "", false)
def tyJxbd725 : Nat → FieldType := fun k => match k with
  | _ => .int
abbrev wsJxbd7250 : List Cond := u_ws RJxbd725 TJxbd725 0
theorem nmJxbd725 : ∀ a, a < 0 → ∀ b, b < 0 → a ≠ b → (TJxbd725 a).2.1 ≠ (TJxbd725 b).2.1 := by decide +kernel
theorem tyJxbd725_ok : ∀ k, k < 0 → parseFieldDescriptor (TJxbd725 k).2.2.1 = some (tyJxbd725 k) := by decide +kernel
def RJ15 : String := "java/util/Objects"
def TJ15 : u_T := fun k => match k with
  | _ => ("", "", "", false)
def tyJ15 : Nat → FieldType := fun k => match k with
  | _ => .int
abbrev wsJ150 : List Cond := u_ws RJ15 TJ15 0
theorem nmJ15 : ∀ a, a < 0 → ∀ b, b < 0 → a ≠ b → (TJ15 a).2.1 ≠ (TJ15 b).2.1 := by decide +kernel
theorem tyJ15_ok : ∀ k, k < 0 → parseFieldDescriptor (TJ15 k).2.2.1 = some (tyJ15 k) := by decide +kernel
abbrev cJ15_checkIndex_7cf53 : ByteArray := prog_25_method_17_code
def yJ15_checkIndex_7cf53 : MethodName := ⟨RJ15, "checkIndex", "(II)I"⟩
def RJxf0a74 : String := "java/util/RandomAccess"
def TJxf0a74 : u_T := fun k => match k with
  | _ => ("", "", "", false)
def tyJxf0a74 : Nat → FieldType := fun k => match k with
  | _ => .int
abbrev wsJxf0a740 : List Cond := u_ws RJxf0a74 TJxf0a74 0
theorem nmJxf0a74 : ∀ a, a < 0 → ∀ b, b < 0 → a ≠ b → (TJxf0a74 a).2.1 ≠ (TJxf0a74 b).2.1 := by decide +kernel
theorem tyJxf0a74_ok : ∀ k, k < 0 → parseFieldDescriptor (TJxf0a74 k).2.2.1 = some (tyJxf0a74 k) := by decide +kernel
def RJxa66e6 : String := "java/util/SequencedCollection"
def TJxa66e6 : u_T := fun k => match k with
  | _ => ("", "", "", false)
def tyJxa66e6 : Nat → FieldType := fun k => match k with
  | _ => .int
abbrev wsJxa66e60 : List Cond := u_ws RJxa66e6 TJxa66e6 0
theorem nmJxa66e6 : ∀ a, a < 0 → ∀ b, b < 0 → a ≠ b → (TJxa66e6 a).2.1 ≠ (TJxa66e6 b).2.1 := by decide +kernel
theorem tyJxa66e6_ok : ∀ k, k < 0 → parseFieldDescriptor (TJxa66e6 k).2.2.1 = some (tyJxa66e6 k) := by decide +kernel
def RJ8 : String := "jdk/internal/util/ArraysSupport"
def TJ8 : u_T := fun k => match k with
  | _ => ("", "", "", false)
def tyJ8 : Nat → FieldType := fun k => match k with
  | _ => .int
abbrev wsJ80 : List Cond := u_ws RJ8 TJ8 0
theorem nmJ8 : ∀ a, a < 0 → ∀ b, b < 0 → a ≠ b → (TJ8 a).2.1 ≠ (TJ8 b).2.1 := by decide +kernel
theorem tyJ8_ok : ∀ k, k < 0 → parseFieldDescriptor (TJ8 k).2.2.1 = some (tyJ8 k) := by decide +kernel
abbrev cJ8_newLength_cabcc : ByteArray := prog_28_method_27_code
def yJ8_newLength_cabcc : MethodName := ⟨RJ8, "newLength", "(III)I"⟩
abbrev cJ8_hugeLength_7cf53 : ByteArray := prog_28_method_28_code
def yJ8_hugeLength_7cf53 : MethodName := ⟨RJ8, "hugeLength", "(II)I"⟩
def RJ3 : String := "jdk/internal/util/Preconditions"
def TJ3 : u_T := fun k => match k with
  | _ => ("", "", "", false)
def tyJ3 : Nat → FieldType := fun k => match k with
  | _ => .int
abbrev wsJ30 : List Cond := u_ws RJ3 TJ3 0
theorem nmJ3 : ∀ a, a < 0 → ∀ b, b < 0 → a ≠ b → (TJ3 a).2.1 ≠ (TJ3 b).2.1 := by decide +kernel
theorem tyJ3_ok : ∀ k, k < 0 → parseFieldDescriptor (TJ3 k).2.2.1 = some (tyJ3 k) := by decide +kernel
abbrev cJ3_checkIndex_8e157 : ByteArray := prog_29_method_11_code
def yJ3_checkIndex_8e157 : MethodName := ⟨RJ3, "checkIndex", "(IILjava/util/function/BiFunction;)I"⟩
def RL : String := "AnswerSumsLaw"
abbrev cL_task : ByteArray := method_3_code
def yL_task : MethodName := ⟨RL, "task", "(LAnswerSums;JJI[J)I"⟩
abbrev cL_law : ByteArray := code
def yL_law : MethodName := ⟨RL, "law", "([I)Z"⟩
theorem dX0_init_0 : decode cX0_init 0 = .ok (.aload_n 0, 1) := by decide +kernel
theorem dX0_init_1 : decode cX0_init 1 = .ok (.invokespecial 3, 3) := by decide +kernel
theorem dX0_init_4 : decode cX0_init 4 = .ok (.aload_n 0, 1) := by decide +kernel
theorem dX0_init_5 : decode cX0_init 5 = .ok (.new 9, 3) := by decide +kernel
theorem dX0_init_8 : decode cX0_init 8 = .ok (.dup, 1) := by decide +kernel
theorem dX0_init_9 : decode cX0_init 9 = .ok (.invokespecial 11, 3) := by decide +kernel
theorem dX0_init_12 : decode cX0_init 12 = .ok (.putfield 12, 3) := by decide +kernel
theorem dX0_init_15 : decode cX0_init 15 = .ok (.aload_n 0, 1) := by decide +kernel
theorem dX0_init_16 : decode cX0_init 16 = .ok (.new 9, 3) := by decide +kernel
theorem dX0_init_19 : decode cX0_init 19 = .ok (.dup, 1) := by decide +kernel
theorem dX0_init_20 : decode cX0_init 20 = .ok (.invokespecial 11, 3) := by decide +kernel
theorem dX0_init_23 : decode cX0_init 23 = .ok (.putfield 18, 3) := by decide +kernel
theorem dX0_init_26 : decode cX0_init 26 = .ok (.aload_n 0, 1) := by decide +kernel
theorem dX0_init_27 : decode cX0_init 27 = .ok (.bipush 33, 2) := by decide +kernel
theorem dX0_init_29 : decode cX0_init 29 = .ok (.newarray .int, 2) := by decide +kernel
theorem dX0_init_31 : decode cX0_init 31 = .ok (.putfield 21, 3) := by decide +kernel
theorem dX0_init_34 : decode cX0_init 34 = .ok (.iconst 0, 1) := by decide +kernel
theorem dX0_init_35 : decode cX0_init 35 = .ok (.istore_n 1, 1) := by decide +kernel
theorem dX0_init_36 : decode cX0_init 36 = .ok (.iload_n 1, 1) := by decide +kernel
theorem dX0_init_37 : decode cX0_init 37 = .ok (.aload_n 0, 1) := by decide +kernel
theorem dX0_init_38 : decode cX0_init 38 = .ok (.getfield 21, 3) := by decide +kernel
theorem dX0_init_41 : decode cX0_init 41 = .ok (.arraylength, 1) := by decide +kernel
theorem dX0_init_42 : decode cX0_init 42 = .ok (.if_icmp .ge 16, 3) := by decide +kernel
theorem dX0_init_45 : decode cX0_init 45 = .ok (.aload_n 0, 1) := by decide +kernel
theorem dX0_init_46 : decode cX0_init 46 = .ok (.getfield 21, 3) := by decide +kernel
theorem dX0_init_49 : decode cX0_init 49 = .ok (.iload_n 1, 1) := by decide +kernel
theorem dX0_init_50 : decode cX0_init 50 = .ok (.iconst (-1), 1) := by decide +kernel
theorem dX0_init_51 : decode cX0_init 51 = .ok (.iastore, 1) := by decide +kernel
theorem dX0_init_52 : decode cX0_init 52 = .ok (.iinc 1 1, 3) := by decide +kernel
theorem dX0_init_55 : decode cX0_init 55 = .ok (.goto (-19), 3) := by decide +kernel
theorem dX0_init_58 : decode cX0_init 58 = .ok (.return_, 1) := by decide +kernel
theorem dX0_taskOf_0 : decode cX0_taskOf 0 = .ok (.iload_n 1, 1) := by decide +kernel
theorem dX0_taskOf_1 : decode cX0_taskOf 1 = .ok (.iconst 1, 1) := by decide +kernel
theorem dX0_taskOf_2 : decode cX0_taskOf 2 = .ok (.if_icmp .lt 14, 3) := by decide +kernel
theorem dX0_taskOf_5 : decode cX0_taskOf 5 = .ok (.iload_n 1, 1) := by decide +kernel
theorem dX0_taskOf_6 : decode cX0_taskOf 6 = .ok (.aload_n 0, 1) := by decide +kernel
theorem dX0_taskOf_7 : decode cX0_taskOf 7 = .ok (.getfield 12, 3) := by decide +kernel
theorem dX0_taskOf_10 : decode cX0_taskOf 10 = .ok (.invokevirtual 25, 3) := by decide +kernel
theorem dX0_taskOf_13 : decode cX0_taskOf 13 = .ok (.if_icmp .le 7, 3) := by decide +kernel
theorem dX0_taskOf_16 : decode cX0_taskOf 16 = .ok (.aconst_null, 1) := by decide +kernel
theorem dX0_taskOf_17 : decode cX0_taskOf 17 = .ok (.goto 16, 3) := by decide +kernel
theorem dX0_taskOf_20 : decode cX0_taskOf 20 = .ok (.aload_n 0, 1) := by decide +kernel
theorem dX0_taskOf_21 : decode cX0_taskOf 21 = .ok (.getfield 12, 3) := by decide +kernel
theorem dX0_taskOf_24 : decode cX0_taskOf 24 = .ok (.iload_n 1, 1) := by decide +kernel
theorem dX0_taskOf_25 : decode cX0_taskOf 25 = .ok (.iconst 1, 1) := by decide +kernel
theorem dX0_taskOf_26 : decode cX0_taskOf 26 = .ok (.isub, 1) := by decide +kernel
theorem dX0_taskOf_27 : decode cX0_taskOf 27 = .ok (.invokevirtual 29, 3) := by decide +kernel
theorem dX0_taskOf_30 : decode cX0_taskOf 30 = .ok (.checkcast 33, 3) := by decide +kernel
theorem dX0_taskOf_33 : decode cX0_taskOf 33 = .ok (.areturn, 1) := by decide +kernel
theorem dX0_raiseCeiling_0 : decode cX0_raiseCeiling 0 = .ok (.iload_n 1, 1) := by decide +kernel
theorem dX0_raiseCeiling_1 : decode cX0_raiseCeiling 1 = .ok (.ifCond .lt 28, 3) := by decide +kernel
theorem dX0_raiseCeiling_4 : decode cX0_raiseCeiling 4 = .ok (.iload_n 1, 1) := by decide +kernel
theorem dX0_raiseCeiling_5 : decode cX0_raiseCeiling 5 = .ok (.aload_n 0, 1) := by decide +kernel
theorem dX0_raiseCeiling_6 : decode cX0_raiseCeiling 6 = .ok (.getfield 21, 3) := by decide +kernel
theorem dX0_raiseCeiling_9 : decode cX0_raiseCeiling 9 = .ok (.arraylength, 1) := by decide +kernel
theorem dX0_raiseCeiling_10 : decode cX0_raiseCeiling 10 = .ok (.if_icmp .ge 19, 3) := by decide +kernel
theorem dX0_raiseCeiling_13 : decode cX0_raiseCeiling 13 = .ok (.aload_n 0, 1) := by decide +kernel
theorem dX0_raiseCeiling_14 : decode cX0_raiseCeiling 14 = .ok (.getfield 21, 3) := by decide +kernel
theorem dX0_raiseCeiling_17 : decode cX0_raiseCeiling 17 = .ok (.iload_n 1, 1) := by decide +kernel
theorem dX0_raiseCeiling_18 : decode cX0_raiseCeiling 18 = .ok (.aload_n 0, 1) := by decide +kernel
theorem dX0_raiseCeiling_19 : decode cX0_raiseCeiling 19 = .ok (.getfield 21, 3) := by decide +kernel
theorem dX0_raiseCeiling_22 : decode cX0_raiseCeiling 22 = .ok (.iload_n 1, 1) := by decide +kernel
theorem dX0_raiseCeiling_23 : decode cX0_raiseCeiling 23 = .ok (.iaload, 1) := by decide +kernel
theorem dX0_raiseCeiling_24 : decode cX0_raiseCeiling 24 = .ok (.iload_n 2, 1) := by decide +kernel
theorem dX0_raiseCeiling_25 : decode cX0_raiseCeiling 25 = .ok (.invokestatic 35, 3) := by decide +kernel
theorem dX0_raiseCeiling_28 : decode cX0_raiseCeiling 28 = .ok (.iastore, 1) := by decide +kernel
theorem dX0_raiseCeiling_29 : decode cX0_raiseCeiling 29 = .ok (.return_, 1) := by decide +kernel
theorem dX0_ceilingOf_0 : decode cX0_ceilingOf 0 = .ok (.iload_n 1, 1) := by decide +kernel
theorem dX0_ceilingOf_1 : decode cX0_ceilingOf 1 = .ok (.ifCond .lt 21, 3) := by decide +kernel
theorem dX0_ceilingOf_4 : decode cX0_ceilingOf 4 = .ok (.iload_n 1, 1) := by decide +kernel
theorem dX0_ceilingOf_5 : decode cX0_ceilingOf 5 = .ok (.aload_n 0, 1) := by decide +kernel
theorem dX0_ceilingOf_6 : decode cX0_ceilingOf 6 = .ok (.getfield 21, 3) := by decide +kernel
theorem dX0_ceilingOf_9 : decode cX0_ceilingOf 9 = .ok (.arraylength, 1) := by decide +kernel
theorem dX0_ceilingOf_10 : decode cX0_ceilingOf 10 = .ok (.if_icmp .ge 12, 3) := by decide +kernel
theorem dX0_ceilingOf_13 : decode cX0_ceilingOf 13 = .ok (.aload_n 0, 1) := by decide +kernel
theorem dX0_ceilingOf_14 : decode cX0_ceilingOf 14 = .ok (.getfield 21, 3) := by decide +kernel
theorem dX0_ceilingOf_17 : decode cX0_ceilingOf 17 = .ok (.iload_n 1, 1) := by decide +kernel
theorem dX0_ceilingOf_18 : decode cX0_ceilingOf 18 = .ok (.iaload, 1) := by decide +kernel
theorem dX0_ceilingOf_19 : decode cX0_ceilingOf 19 = .ok (.goto 4, 3) := by decide +kernel
theorem dX0_ceilingOf_22 : decode cX0_ceilingOf 22 = .ok (.iconst (-1), 1) := by decide +kernel
theorem dX0_ceilingOf_23 : decode cX0_ceilingOf 23 = .ok (.ireturn, 1) := by decide +kernel
theorem dX0_blockingOf_0 : decode cX0_blockingOf 0 = .ok (.lconst 0, 1) := by decide +kernel
theorem dX0_blockingOf_1 : decode cX0_blockingOf 1 = .ok (.lstore_n 2, 1) := by decide +kernel
theorem dX0_blockingOf_2 : decode cX0_blockingOf 2 = .ok (.iconst 0, 1) := by decide +kernel
theorem dX0_blockingOf_3 : decode cX0_blockingOf 3 = .ok (.istore 4, 2) := by decide +kernel
theorem dX0_blockingOf_5 : decode cX0_blockingOf 5 = .ok (.iload 4, 2) := by decide +kernel
theorem dX0_blockingOf_7 : decode cX0_blockingOf 7 = .ok (.aload_n 0, 1) := by decide +kernel
theorem dX0_blockingOf_8 : decode cX0_blockingOf 8 = .ok (.getfield 12, 3) := by decide +kernel
theorem dX0_blockingOf_11 : decode cX0_blockingOf 11 = .ok (.invokevirtual 25, 3) := by decide +kernel
theorem dX0_blockingOf_14 : decode cX0_blockingOf 14 = .ok (.if_icmp .ge 50, 3) := by decide +kernel
theorem dX0_blockingOf_17 : decode cX0_blockingOf 17 = .ok (.aload_n 0, 1) := by decide +kernel
theorem dX0_blockingOf_18 : decode cX0_blockingOf 18 = .ok (.getfield 12, 3) := by decide +kernel
theorem dX0_blockingOf_21 : decode cX0_blockingOf 21 = .ok (.iload 4, 2) := by decide +kernel
theorem dX0_blockingOf_23 : decode cX0_blockingOf 23 = .ok (.invokevirtual 29, 3) := by decide +kernel
theorem dX0_blockingOf_26 : decode cX0_blockingOf 26 = .ok (.checkcast 33, 3) := by decide +kernel
theorem dX0_blockingOf_29 : decode cX0_blockingOf 29 = .ok (.astore 5, 2) := by decide +kernel
theorem dX0_blockingOf_31 : decode cX0_blockingOf 31 = .ok (.aload 5, 2) := by decide +kernel
theorem dX0_blockingOf_33 : decode cX0_blockingOf 33 = .ok (.getfield 41, 3) := by decide +kernel
theorem dX0_blockingOf_36 : decode cX0_blockingOf 36 = .ok (.aload_n 1, 1) := by decide +kernel
theorem dX0_blockingOf_37 : decode cX0_blockingOf 37 = .ok (.getfield 41, 3) := by decide +kernel
theorem dX0_blockingOf_40 : decode cX0_blockingOf 40 = .ok (.if_icmp .ge 18, 3) := by decide +kernel
theorem dX0_blockingOf_43 : decode cX0_blockingOf 43 = .ok (.lload_n 2, 1) := by decide +kernel
theorem dX0_blockingOf_44 : decode cX0_blockingOf 44 = .ok (.aload_n 0, 1) := by decide +kernel
theorem dX0_blockingOf_45 : decode cX0_blockingOf 45 = .ok (.aload 5, 2) := by decide +kernel
theorem dX0_blockingOf_47 : decode cX0_blockingOf 47 = .ok (.aload_n 1, 1) := by decide +kernel
theorem dX0_blockingOf_48 : decode cX0_blockingOf 48 = .ok (.getfield 41, 3) := by decide +kernel
theorem dX0_blockingOf_51 : decode cX0_blockingOf 51 = .ok (.invokevirtual 45, 3) := by decide +kernel
theorem dX0_blockingOf_54 : decode cX0_blockingOf 54 = .ok (.invokestatic 49, 3) := by decide +kernel
theorem dX0_blockingOf_57 : decode cX0_blockingOf 57 = .ok (.lstore_n 2, 1) := by decide +kernel
theorem dX0_blockingOf_58 : decode cX0_blockingOf 58 = .ok (.iinc 4 1, 3) := by decide +kernel
theorem dX0_blockingOf_61 : decode cX0_blockingOf 61 = .ok (.goto (-56), 3) := by decide +kernel
theorem dX0_blockingOf_64 : decode cX0_blockingOf 64 = .ok (.lload_n 2, 1) := by decide +kernel
theorem dX0_blockingOf_65 : decode cX0_blockingOf 65 = .ok (.lreturn, 1) := by decide +kernel
theorem dX0_longestSection_0 : decode cX0_longestSection 0 = .ok (.lconst 0, 1) := by decide +kernel
theorem dX0_longestSection_1 : decode cX0_longestSection 1 = .ok (.lstore_n 3, 1) := by decide +kernel
theorem dX0_longestSection_2 : decode cX0_longestSection 2 = .ok (.iconst 0, 1) := by decide +kernel
theorem dX0_longestSection_3 : decode cX0_longestSection 3 = .ok (.istore 5, 2) := by decide +kernel
theorem dX0_longestSection_5 : decode cX0_longestSection 5 = .ok (.iload 5, 2) := by decide +kernel
theorem dX0_longestSection_7 : decode cX0_longestSection 7 = .ok (.aload_n 1, 1) := by decide +kernel
theorem dX0_longestSection_8 : decode cX0_longestSection 8 = .ok (.getfield 52, 3) := by decide +kernel
theorem dX0_longestSection_11 : decode cX0_longestSection 11 = .ok (.if_icmp .ge 43, 3) := by decide +kernel
theorem dX0_longestSection_14 : decode cX0_longestSection 14 = .ok (.iload 5, 2) := by decide +kernel
theorem dX0_longestSection_16 : decode cX0_longestSection 16 = .ok (.bipush 10, 2) := by decide +kernel
theorem dX0_longestSection_18 : decode cX0_longestSection 18 = .ok (.if_icmp .ge 36, 3) := by decide +kernel
theorem dX0_longestSection_21 : decode cX0_longestSection 21 = .ok (.aload_n 0, 1) := by decide +kernel
theorem dX0_longestSection_22 : decode cX0_longestSection 22 = .ok (.aload_n 1, 1) := by decide +kernel
theorem dX0_longestSection_23 : decode cX0_longestSection 23 = .ok (.getfield 55, 3) := by decide +kernel
theorem dX0_longestSection_26 : decode cX0_longestSection 26 = .ok (.iload 5, 2) := by decide +kernel
theorem dX0_longestSection_28 : decode cX0_longestSection 28 = .ok (.iaload, 1) := by decide +kernel
theorem dX0_longestSection_29 : decode cX0_longestSection 29 = .ok (.invokevirtual 58, 3) := by decide +kernel
theorem dX0_longestSection_32 : decode cX0_longestSection 32 = .ok (.iload_n 2, 1) := by decide +kernel
theorem dX0_longestSection_33 : decode cX0_longestSection 33 = .ok (.if_icmp .lt 15, 3) := by decide +kernel
theorem dX0_longestSection_36 : decode cX0_longestSection 36 = .ok (.lload_n 3, 1) := by decide +kernel
theorem dX0_longestSection_37 : decode cX0_longestSection 37 = .ok (.aload_n 1, 1) := by decide +kernel
theorem dX0_longestSection_38 : decode cX0_longestSection 38 = .ok (.getfield 62, 3) := by decide +kernel
theorem dX0_longestSection_41 : decode cX0_longestSection 41 = .ok (.iload 5, 2) := by decide +kernel
theorem dX0_longestSection_43 : decode cX0_longestSection 43 = .ok (.laload, 1) := by decide +kernel
theorem dX0_longestSection_44 : decode cX0_longestSection 44 = .ok (.invokestatic 49, 3) := by decide +kernel
theorem dX0_longestSection_47 : decode cX0_longestSection 47 = .ok (.lstore_n 3, 1) := by decide +kernel
theorem dX0_longestSection_48 : decode cX0_longestSection 48 = .ok (.iinc 5 1, 3) := by decide +kernel
theorem dX0_longestSection_51 : decode cX0_longestSection 51 = .ok (.goto (-46), 3) := by decide +kernel
theorem dX0_longestSection_54 : decode cX0_longestSection 54 = .ok (.lload_n 3, 1) := by decide +kernel
theorem dX0_longestSection_55 : decode cX0_longestSection 55 = .ok (.lreturn, 1) := by decide +kernel
theorem dX0_partAbove_0 : decode cX0_partAbove 0 = .ok (.iload_n 2, 1) := by decide +kernel
theorem dX0_partAbove_1 : decode cX0_partAbove 1 = .ok (.ifCond .ge 5, 3) := by decide +kernel
theorem dX0_partAbove_4 : decode cX0_partAbove 4 = .ok (.aconst_null, 1) := by decide +kernel
theorem dX0_partAbove_5 : decode cX0_partAbove 5 = .ok (.areturn, 1) := by decide +kernel
theorem dX0_partAbove_6 : decode cX0_partAbove 6 = .ok (.iload_n 2, 1) := by decide +kernel
theorem dX0_partAbove_7 : decode cX0_partAbove 7 = .ok (.istore_n 3, 1) := by decide +kernel
theorem dX0_partAbove_8 : decode cX0_partAbove 8 = .ok (.iconst 0, 1) := by decide +kernel
theorem dX0_partAbove_9 : decode cX0_partAbove 9 = .ok (.istore 4, 2) := by decide +kernel
theorem dX0_partAbove_11 : decode cX0_partAbove 11 = .ok (.iload 4, 2) := by decide +kernel
theorem dX0_partAbove_13 : decode cX0_partAbove 13 = .ok (.aload_n 0, 1) := by decide +kernel
theorem dX0_partAbove_14 : decode cX0_partAbove 14 = .ok (.getfield 12, 3) := by decide +kernel
theorem dX0_partAbove_17 : decode cX0_partAbove 17 = .ok (.invokevirtual 25, 3) := by decide +kernel
theorem dX0_partAbove_20 : decode cX0_partAbove 20 = .ok (.if_icmp .ge 42, 3) := by decide +kernel
theorem dX0_partAbove_23 : decode cX0_partAbove 23 = .ok (.aload_n 0, 1) := by decide +kernel
theorem dX0_partAbove_24 : decode cX0_partAbove 24 = .ok (.getfield 12, 3) := by decide +kernel
theorem dX0_partAbove_27 : decode cX0_partAbove 27 = .ok (.iload 4, 2) := by decide +kernel
theorem dX0_partAbove_29 : decode cX0_partAbove 29 = .ok (.invokevirtual 29, 3) := by decide +kernel
theorem dX0_partAbove_32 : decode cX0_partAbove 32 = .ok (.checkcast 33, 3) := by decide +kernel
theorem dX0_partAbove_35 : decode cX0_partAbove 35 = .ok (.astore 5, 2) := by decide +kernel
theorem dX0_partAbove_37 : decode cX0_partAbove 37 = .ok (.aload 5, 2) := by decide +kernel
theorem dX0_partAbove_39 : decode cX0_partAbove 39 = .ok (.aload_n 1, 1) := by decide +kernel
theorem dX0_partAbove_40 : decode cX0_partAbove 40 = .ok (.invokevirtual 66, 3) := by decide +kernel
theorem dX0_partAbove_43 : decode cX0_partAbove 43 = .ok (.ifCond .eq 13, 3) := by decide +kernel
theorem dX0_partAbove_46 : decode cX0_partAbove 46 = .ok (.iload_n 3, 1) := by decide +kernel
theorem dX0_partAbove_47 : decode cX0_partAbove 47 = .ok (.ifCond .ne 6, 3) := by decide +kernel
theorem dX0_partAbove_50 : decode cX0_partAbove 50 = .ok (.aload 5, 2) := by decide +kernel
theorem dX0_partAbove_52 : decode cX0_partAbove 52 = .ok (.areturn, 1) := by decide +kernel
theorem dX0_partAbove_53 : decode cX0_partAbove 53 = .ok (.iinc 3 (-1), 3) := by decide +kernel
theorem dX0_partAbove_56 : decode cX0_partAbove 56 = .ok (.iinc 4 1, 3) := by decide +kernel
theorem dX0_partAbove_59 : decode cX0_partAbove 59 = .ok (.goto (-48), 3) := by decide +kernel
theorem dX0_partAbove_62 : decode cX0_partAbove 62 = .ok (.iload_n 3, 1) := by decide +kernel
theorem dX0_partAbove_63 : decode cX0_partAbove 63 = .ok (.aload_n 0, 1) := by decide +kernel
theorem dX0_partAbove_64 : decode cX0_partAbove 64 = .ok (.getfield 18, 3) := by decide +kernel
theorem dX0_partAbove_67 : decode cX0_partAbove 67 = .ok (.invokevirtual 25, 3) := by decide +kernel
theorem dX0_partAbove_70 : decode cX0_partAbove 70 = .ok (.if_icmp .ge 17, 3) := by decide +kernel
theorem dX0_partAbove_73 : decode cX0_partAbove 73 = .ok (.aload_n 0, 1) := by decide +kernel
theorem dX0_partAbove_74 : decode cX0_partAbove 74 = .ok (.getfield 18, 3) := by decide +kernel
theorem dX0_partAbove_77 : decode cX0_partAbove 77 = .ok (.iload_n 3, 1) := by decide +kernel
theorem dX0_partAbove_78 : decode cX0_partAbove 78 = .ok (.invokevirtual 29, 3) := by decide +kernel
theorem dX0_partAbove_81 : decode cX0_partAbove 81 = .ok (.checkcast 70, 3) := by decide +kernel
theorem dX0_partAbove_84 : decode cX0_partAbove 84 = .ok (.goto 4, 3) := by decide +kernel
theorem dX0_partAbove_87 : decode cX0_partAbove 87 = .ok (.aconst_null, 1) := by decide +kernel
theorem dX0_partAbove_88 : decode cX0_partAbove 88 = .ok (.areturn, 1) := by decide +kernel
theorem dX0_takenAbove_0 : decode cX0_takenAbove 0 = .ok (.lconst 0, 1) := by decide +kernel
theorem dX0_takenAbove_1 : decode cX0_takenAbove 1 = .ok (.lstore 4, 2) := by decide +kernel
theorem dX0_takenAbove_3 : decode cX0_takenAbove 3 = .ok (.iconst 0, 1) := by decide +kernel
theorem dX0_takenAbove_4 : decode cX0_takenAbove 4 = .ok (.istore 6, 2) := by decide +kernel
theorem dX0_takenAbove_6 : decode cX0_takenAbove 6 = .ok (.iload 6, 2) := by decide +kernel
theorem dX0_takenAbove_8 : decode cX0_takenAbove 8 = .ok (.aload_n 0, 1) := by decide +kernel
theorem dX0_takenAbove_9 : decode cX0_takenAbove 9 = .ok (.getfield 12, 3) := by decide +kernel
theorem dX0_takenAbove_12 : decode cX0_takenAbove 12 = .ok (.invokevirtual 25, 3) := by decide +kernel
theorem dX0_takenAbove_15 : decode cX0_takenAbove 15 = .ok (.if_icmp .ge 49, 3) := by decide +kernel
theorem dX0_takenAbove_18 : decode cX0_takenAbove 18 = .ok (.aload_n 0, 1) := by decide +kernel
theorem dX0_takenAbove_19 : decode cX0_takenAbove 19 = .ok (.getfield 12, 3) := by decide +kernel
theorem dX0_takenAbove_22 : decode cX0_takenAbove 22 = .ok (.iload 6, 2) := by decide +kernel
theorem dX0_takenAbove_24 : decode cX0_takenAbove 24 = .ok (.invokevirtual 29, 3) := by decide +kernel
theorem dX0_takenAbove_27 : decode cX0_takenAbove 27 = .ok (.checkcast 33, 3) := by decide +kernel
theorem dX0_takenAbove_30 : decode cX0_takenAbove 30 = .ok (.astore 7, 2) := by decide +kernel
theorem dX0_takenAbove_32 : decode cX0_takenAbove 32 = .ok (.aload 7, 2) := by decide +kernel
theorem dX0_takenAbove_34 : decode cX0_takenAbove 34 = .ok (.aload_n 1, 1) := by decide +kernel
theorem dX0_takenAbove_35 : decode cX0_takenAbove 35 = .ok (.invokevirtual 66, 3) := by decide +kernel
theorem dX0_takenAbove_38 : decode cX0_takenAbove 38 = .ok (.ifCond .eq 20, 3) := by decide +kernel
theorem dX0_takenAbove_41 : decode cX0_takenAbove 41 = .ok (.lload 4, 2) := by decide +kernel
theorem dX0_takenAbove_43 : decode cX0_takenAbove 43 = .ok (.aload 7, 2) := by decide +kernel
theorem dX0_takenAbove_45 : decode cX0_takenAbove 45 = .ok (.lload_n 2, 1) := by decide +kernel
theorem dX0_takenAbove_46 : decode cX0_takenAbove 46 = .ok (.invokevirtual 72, 3) := by decide +kernel
theorem dX0_takenAbove_49 : decode cX0_takenAbove 49 = .ok (.aload 7, 2) := by decide +kernel
theorem dX0_takenAbove_51 : decode cX0_takenAbove 51 = .ok (.invokevirtual 76, 3) := by decide +kernel
theorem dX0_takenAbove_54 : decode cX0_takenAbove 54 = .ok (.lmul, 1) := by decide +kernel
theorem dX0_takenAbove_55 : decode cX0_takenAbove 55 = .ok (.ladd, 1) := by decide +kernel
theorem dX0_takenAbove_56 : decode cX0_takenAbove 56 = .ok (.lstore 4, 2) := by decide +kernel
theorem dX0_takenAbove_58 : decode cX0_takenAbove 58 = .ok (.iinc 6 1, 3) := by decide +kernel
theorem dX0_takenAbove_61 : decode cX0_takenAbove 61 = .ok (.goto (-55), 3) := by decide +kernel
theorem dX0_takenAbove_64 : decode cX0_takenAbove 64 = .ok (.iconst 0, 1) := by decide +kernel
theorem dX0_takenAbove_65 : decode cX0_takenAbove 65 = .ok (.istore 6, 2) := by decide +kernel
theorem dX0_takenAbove_67 : decode cX0_takenAbove 67 = .ok (.iload 6, 2) := by decide +kernel
theorem dX0_takenAbove_69 : decode cX0_takenAbove 69 = .ok (.aload_n 0, 1) := by decide +kernel
theorem dX0_takenAbove_70 : decode cX0_takenAbove 70 = .ok (.getfield 18, 3) := by decide +kernel
theorem dX0_takenAbove_73 : decode cX0_takenAbove 73 = .ok (.invokevirtual 25, 3) := by decide +kernel
theorem dX0_takenAbove_76 : decode cX0_takenAbove 76 = .ok (.if_icmp .ge 40, 3) := by decide +kernel
theorem dX0_takenAbove_79 : decode cX0_takenAbove 79 = .ok (.aload_n 0, 1) := by decide +kernel
theorem dX0_takenAbove_80 : decode cX0_takenAbove 80 = .ok (.getfield 18, 3) := by decide +kernel
theorem dX0_takenAbove_83 : decode cX0_takenAbove 83 = .ok (.iload 6, 2) := by decide +kernel
theorem dX0_takenAbove_85 : decode cX0_takenAbove 85 = .ok (.invokevirtual 29, 3) := by decide +kernel
theorem dX0_takenAbove_88 : decode cX0_takenAbove 88 = .ok (.checkcast 70, 3) := by decide +kernel
theorem dX0_takenAbove_91 : decode cX0_takenAbove 91 = .ok (.astore 7, 2) := by decide +kernel
theorem dX0_takenAbove_93 : decode cX0_takenAbove 93 = .ok (.lload 4, 2) := by decide +kernel
theorem dX0_takenAbove_95 : decode cX0_takenAbove 95 = .ok (.aload 7, 2) := by decide +kernel
theorem dX0_takenAbove_97 : decode cX0_takenAbove 97 = .ok (.lload_n 2, 1) := by decide +kernel
theorem dX0_takenAbove_98 : decode cX0_takenAbove 98 = .ok (.invokevirtual 80, 3) := by decide +kernel
theorem dX0_takenAbove_101 : decode cX0_takenAbove 101 = .ok (.aload 7, 2) := by decide +kernel
theorem dX0_takenAbove_103 : decode cX0_takenAbove 103 = .ok (.invokevirtual 81, 3) := by decide +kernel
theorem dX0_takenAbove_106 : decode cX0_takenAbove 106 = .ok (.lmul, 1) := by decide +kernel
theorem dX0_takenAbove_107 : decode cX0_takenAbove 107 = .ok (.ladd, 1) := by decide +kernel
theorem dX0_takenAbove_108 : decode cX0_takenAbove 108 = .ok (.lstore 4, 2) := by decide +kernel
theorem dX0_takenAbove_110 : decode cX0_takenAbove 110 = .ok (.iinc 6 1, 3) := by decide +kernel
theorem dX0_takenAbove_113 : decode cX0_takenAbove 113 = .ok (.goto (-46), 3) := by decide +kernel
theorem dX0_takenAbove_116 : decode cX0_takenAbove 116 = .ok (.lload 4, 2) := by decide +kernel
theorem dX0_takenAbove_118 : decode cX0_takenAbove 118 = .ok (.lreturn, 1) := by decide +kernel
theorem dX0_leastShareAbove_0 : decode cX0_leastShareAbove 0 = .ok (.lconst 0, 1) := by decide +kernel
theorem dX0_leastShareAbove_1 : decode cX0_leastShareAbove 1 = .ok (.lstore_n 2, 1) := by decide +kernel
theorem dX0_leastShareAbove_2 : decode cX0_leastShareAbove 2 = .ok (.iconst 0, 1) := by decide +kernel
theorem dX0_leastShareAbove_3 : decode cX0_leastShareAbove 3 = .ok (.istore 4, 2) := by decide +kernel
theorem dX0_leastShareAbove_5 : decode cX0_leastShareAbove 5 = .ok (.iload 4, 2) := by decide +kernel
theorem dX0_leastShareAbove_7 : decode cX0_leastShareAbove 7 = .ok (.aload_n 0, 1) := by decide +kernel
theorem dX0_leastShareAbove_8 : decode cX0_leastShareAbove 8 = .ok (.getfield 12, 3) := by decide +kernel
theorem dX0_leastShareAbove_11 : decode cX0_leastShareAbove 11 = .ok (.invokevirtual 25, 3) := by decide +kernel
theorem dX0_leastShareAbove_14 : decode cX0_leastShareAbove 14 = .ok (.if_icmp .ge 40, 3) := by decide +kernel
theorem dX0_leastShareAbove_17 : decode cX0_leastShareAbove 17 = .ok (.aload_n 0, 1) := by decide +kernel
theorem dX0_leastShareAbove_18 : decode cX0_leastShareAbove 18 = .ok (.getfield 12, 3) := by decide +kernel
theorem dX0_leastShareAbove_21 : decode cX0_leastShareAbove 21 = .ok (.iload 4, 2) := by decide +kernel
theorem dX0_leastShareAbove_23 : decode cX0_leastShareAbove 23 = .ok (.invokevirtual 29, 3) := by decide +kernel
theorem dX0_leastShareAbove_26 : decode cX0_leastShareAbove 26 = .ok (.checkcast 33, 3) := by decide +kernel
theorem dX0_leastShareAbove_29 : decode cX0_leastShareAbove 29 = .ok (.astore 5, 2) := by decide +kernel
theorem dX0_leastShareAbove_31 : decode cX0_leastShareAbove 31 = .ok (.aload 5, 2) := by decide +kernel
theorem dX0_leastShareAbove_33 : decode cX0_leastShareAbove 33 = .ok (.aload_n 1, 1) := by decide +kernel
theorem dX0_leastShareAbove_34 : decode cX0_leastShareAbove 34 = .ok (.invokevirtual 66, 3) := by decide +kernel
theorem dX0_leastShareAbove_37 : decode cX0_leastShareAbove 37 = .ok (.ifCond .eq 11, 3) := by decide +kernel
theorem dX0_leastShareAbove_40 : decode cX0_leastShareAbove 40 = .ok (.lload_n 2, 1) := by decide +kernel
theorem dX0_leastShareAbove_41 : decode cX0_leastShareAbove 41 = .ok (.aload 5, 2) := by decide +kernel
theorem dX0_leastShareAbove_43 : decode cX0_leastShareAbove 43 = .ok (.invokevirtual 82, 3) := by decide +kernel
theorem dX0_leastShareAbove_46 : decode cX0_leastShareAbove 46 = .ok (.ladd, 1) := by decide +kernel
theorem dX0_leastShareAbove_47 : decode cX0_leastShareAbove 47 = .ok (.lstore_n 2, 1) := by decide +kernel
theorem dX0_leastShareAbove_48 : decode cX0_leastShareAbove 48 = .ok (.iinc 4 1, 3) := by decide +kernel
theorem dX0_leastShareAbove_51 : decode cX0_leastShareAbove 51 = .ok (.goto (-46), 3) := by decide +kernel
theorem dX0_leastShareAbove_54 : decode cX0_leastShareAbove 54 = .ok (.iconst 0, 1) := by decide +kernel
theorem dX0_leastShareAbove_55 : decode cX0_leastShareAbove 55 = .ok (.istore 4, 2) := by decide +kernel
theorem dX0_leastShareAbove_57 : decode cX0_leastShareAbove 57 = .ok (.iload 4, 2) := by decide +kernel
theorem dX0_leastShareAbove_59 : decode cX0_leastShareAbove 59 = .ok (.aload_n 0, 1) := by decide +kernel
theorem dX0_leastShareAbove_60 : decode cX0_leastShareAbove 60 = .ok (.getfield 18, 3) := by decide +kernel
theorem dX0_leastShareAbove_63 : decode cX0_leastShareAbove 63 = .ok (.invokevirtual 25, 3) := by decide +kernel
theorem dX0_leastShareAbove_66 : decode cX0_leastShareAbove 66 = .ok (.if_icmp .ge 27, 3) := by decide +kernel
theorem dX0_leastShareAbove_69 : decode cX0_leastShareAbove 69 = .ok (.lload_n 2, 1) := by decide +kernel
theorem dX0_leastShareAbove_70 : decode cX0_leastShareAbove 70 = .ok (.aload_n 0, 1) := by decide +kernel
theorem dX0_leastShareAbove_71 : decode cX0_leastShareAbove 71 = .ok (.getfield 18, 3) := by decide +kernel
theorem dX0_leastShareAbove_74 : decode cX0_leastShareAbove 74 = .ok (.iload 4, 2) := by decide +kernel
theorem dX0_leastShareAbove_76 : decode cX0_leastShareAbove 76 = .ok (.invokevirtual 29, 3) := by decide +kernel
theorem dX0_leastShareAbove_79 : decode cX0_leastShareAbove 79 = .ok (.checkcast 70, 3) := by decide +kernel
theorem dX0_leastShareAbove_82 : decode cX0_leastShareAbove 82 = .ok (.invokevirtual 85, 3) := by decide +kernel
theorem dX0_leastShareAbove_85 : decode cX0_leastShareAbove 85 = .ok (.ladd, 1) := by decide +kernel
theorem dX0_leastShareAbove_86 : decode cX0_leastShareAbove 86 = .ok (.lstore_n 2, 1) := by decide +kernel
theorem dX0_leastShareAbove_87 : decode cX0_leastShareAbove 87 = .ok (.iinc 4 1, 3) := by decide +kernel
theorem dX0_leastShareAbove_90 : decode cX0_leastShareAbove 90 = .ok (.goto (-33), 3) := by decide +kernel
theorem dX0_leastShareAbove_93 : decode cX0_leastShareAbove 93 = .ok (.lload_n 2, 1) := by decide +kernel
theorem dX0_leastShareAbove_94 : decode cX0_leastShareAbove 94 = .ok (.lreturn, 1) := by decide +kernel
theorem dX0_find_0 : decode cX0_find 0 = .ok (.aload_n 2, 1) := by decide +kernel
theorem dX0_find_1 : decode cX0_find 1 = .ok (.invokevirtual 86, 3) := by decide +kernel
theorem dX0_find_4 : decode cX0_find 4 = .ok (.ldc2_w 91, 3) := by decide +kernel
theorem dX0_find_7 : decode cX0_find 7 = .ok (.aload_n 0, 1) := by decide +kernel
theorem dX0_find_8 : decode cX0_find 8 = .ok (.aload_n 1, 1) := by decide +kernel
theorem dX0_find_9 : decode cX0_find 9 = .ok (.invokevirtual 93, 3) := by decide +kernel
theorem dX0_find_12 : decode cX0_find 12 = .ok (.lsub, 1) := by decide +kernel
theorem dX0_find_13 : decode cX0_find 13 = .ok (.lstore_n 3, 1) := by decide +kernel
theorem dX0_find_14 : decode cX0_find 14 = .ok (.lload_n 3, 1) := by decide +kernel
theorem dX0_find_15 : decode cX0_find 15 = .ok (.lconst 1, 1) := by decide +kernel
theorem dX0_find_16 : decode cX0_find 16 = .ok (.lcmp, 1) := by decide +kernel
theorem dX0_find_17 : decode cX0_find 17 = .ok (.ifCond .ge 4, 3) := by decide +kernel
theorem dX0_find_20 : decode cX0_find 20 = .ok (.return_, 1) := by decide +kernel
theorem dX0_find_21 : decode cX0_find 21 = .ok (.aload_n 0, 1) := by decide +kernel
theorem dX0_find_22 : decode cX0_find 22 = .ok (.aload_n 1, 1) := by decide +kernel
theorem dX0_find_23 : decode cX0_find 23 = .ok (.invokevirtual 97, 3) := by decide +kernel
theorem dX0_find_26 : decode cX0_find 26 = .ok (.lstore 5, 2) := by decide +kernel
theorem dX0_find_28 : decode cX0_find 28 = .ok (.lconst 0, 1) := by decide +kernel
theorem dX0_find_29 : decode cX0_find 29 = .ok (.lstore 7, 2) := by decide +kernel
theorem dX0_find_31 : decode cX0_find 31 = .ok (.iconst 0, 1) := by decide +kernel
theorem dX0_find_32 : decode cX0_find 32 = .ok (.istore 9, 2) := by decide +kernel
theorem dX0_find_34 : decode cX0_find 34 = .ok (.lconst 0, 1) := by decide +kernel
theorem dX0_find_35 : decode cX0_find 35 = .ok (.lstore 10, 2) := by decide +kernel
theorem dX0_find_37 : decode cX0_find 37 = .ok (.lconst 0, 1) := by decide +kernel
theorem dX0_find_38 : decode cX0_find 38 = .ok (.lstore 12, 2) := by decide +kernel
theorem dX0_find_40 : decode cX0_find 40 = .ok (.iconst 0, 1) := by decide +kernel
theorem dX0_find_41 : decode cX0_find 41 = .ok (.istore 14, 2) := by decide +kernel
theorem dX0_find_43 : decode cX0_find 43 = .ok (.iload 14, 2) := by decide +kernel
theorem dX0_find_45 : decode cX0_find 45 = .ok (.sipush 500, 3) := by decide +kernel
theorem dX0_find_48 : decode cX0_find 48 = .ok (.if_icmp .ge 143, 3) := by decide +kernel
theorem dX0_find_51 : decode cX0_find 51 = .ok (.iload 14, 2) := by decide +kernel
theorem dX0_find_53 : decode cX0_find 53 = .ok (.iconst 1, 1) := by decide +kernel
theorem dX0_find_54 : decode cX0_find 54 = .ok (.iadd, 1) := by decide +kernel
theorem dX0_find_55 : decode cX0_find 55 = .ok (.i2l, 1) := by decide +kernel
theorem dX0_find_56 : decode cX0_find 56 = .ok (.aload_n 1, 1) := by decide +kernel
theorem dX0_find_57 : decode cX0_find 57 = .ok (.invokevirtual 76, 3) := by decide +kernel
theorem dX0_find_60 : decode cX0_find 60 = .ok (.lmul, 1) := by decide +kernel
theorem dX0_find_61 : decode cX0_find 61 = .ok (.lload 5, 2) := by decide +kernel
theorem dX0_find_63 : decode cX0_find 63 = .ok (.ladd, 1) := by decide +kernel
theorem dX0_find_64 : decode cX0_find 64 = .ok (.lstore 15, 2) := by decide +kernel
theorem dX0_find_66 : decode cX0_find 66 = .ok (.aload_n 1, 1) := by decide +kernel
theorem dX0_find_67 : decode cX0_find 67 = .ok (.iload 14, 2) := by decide +kernel
theorem dX0_find_69 : decode cX0_find 69 = .ok (.invokevirtual 100, 3) := by decide +kernel
theorem dX0_find_72 : decode cX0_find 72 = .ok (.lstore 17, 2) := by decide +kernel
theorem dX0_find_74 : decode cX0_find 74 = .ok (.lload 12, 2) := by decide +kernel
theorem dX0_find_76 : decode cX0_find 76 = .ok (.aload_n 1, 1) := by decide +kernel
theorem dX0_find_77 : decode cX0_find 77 = .ok (.invokevirtual 76, 3) := by decide +kernel
theorem dX0_find_80 : decode cX0_find 80 = .ok (.ladd, 1) := by decide +kernel
theorem dX0_find_81 : decode cX0_find 81 = .ok (.lload 15, 2) := by decide +kernel
theorem dX0_find_83 : decode cX0_find 83 = .ok (.ldc2_w 91, 3) := by decide +kernel
theorem dX0_find_86 : decode cX0_find 86 = .ok (.lmul, 1) := by decide +kernel
theorem dX0_find_87 : decode cX0_find 87 = .ok (.lload_n 3, 1) := by decide +kernel
theorem dX0_find_88 : decode cX0_find 88 = .ok (.invokestatic 104, 3) := by decide +kernel
theorem dX0_find_91 : decode cX0_find 91 = .ok (.invokestatic 49, 3) := by decide +kernel
theorem dX0_find_94 : decode cX0_find 94 = .ok (.lstore 19, 2) := by decide +kernel
theorem dX0_find_96 : decode cX0_find 96 = .ok (.ldc2_w 107, 3) := by decide +kernel
theorem dX0_find_99 : decode cX0_find 99 = .ok (.lload 17, 2) := by decide +kernel
theorem dX0_find_101 : decode cX0_find 101 = .ok (.aload_n 1, 1) := by decide +kernel
theorem dX0_find_102 : decode cX0_find 102 = .ok (.getfield 109, 3) := by decide +kernel
theorem dX0_find_105 : decode cX0_find 105 = .ok (.ladd, 1) := by decide +kernel
theorem dX0_find_106 : decode cX0_find 106 = .ok (.invokestatic 113, 3) := by decide +kernel
theorem dX0_find_109 : decode cX0_find 109 = .ok (.lstore 21, 2) := by decide +kernel
theorem dX0_find_111 : decode cX0_find 111 = .ok (.aload_n 0, 1) := by decide +kernel
theorem dX0_find_112 : decode cX0_find 112 = .ok (.aload_n 1, 1) := by decide +kernel
theorem dX0_find_113 : decode cX0_find 113 = .ok (.lload 15, 2) := by decide +kernel
theorem dX0_find_115 : decode cX0_find 115 = .ok (.lload 19, 2) := by decide +kernel
theorem dX0_find_117 : decode cX0_find 117 = .ok (.lload 21, 2) := by decide +kernel
theorem dX0_find_119 : decode cX0_find 119 = .ok (.invokevirtual 116, 3) := by decide +kernel
theorem dX0_find_122 : decode cX0_find 122 = .ok (.lstore 12, 2) := by decide +kernel
theorem dX0_find_124 : decode cX0_find 124 = .ok (.lload 12, 2) := by decide +kernel
theorem dX0_find_126 : decode cX0_find 126 = .ok (.ldc2_w 120, 3) := by decide +kernel
theorem dX0_find_129 : decode cX0_find 129 = .ok (.lcmp, 1) := by decide +kernel
theorem dX0_find_130 : decode cX0_find 130 = .ok (.ifCond .ne 4, 3) := by decide +kernel
theorem dX0_find_133 : decode cX0_find 133 = .ok (.return_, 1) := by decide +kernel
theorem dX0_find_134 : decode cX0_find 134 = .ok (.lload 12, 2) := by decide +kernel
theorem dX0_find_136 : decode cX0_find 136 = .ok (.lload 17, 2) := by decide +kernel
theorem dX0_find_138 : decode cX0_find 138 = .ok (.lsub, 1) := by decide +kernel
theorem dX0_find_139 : decode cX0_find 139 = .ok (.lload 7, 2) := by decide +kernel
theorem dX0_find_141 : decode cX0_find 141 = .ok (.lcmp, 1) := by decide +kernel
theorem dX0_find_142 : decode cX0_find 142 = .ok (.ifCond .le 18, 3) := by decide +kernel
theorem dX0_find_145 : decode cX0_find 145 = .ok (.lload 12, 2) := by decide +kernel
theorem dX0_find_147 : decode cX0_find 147 = .ok (.lload 17, 2) := by decide +kernel
theorem dX0_find_149 : decode cX0_find 149 = .ok (.lsub, 1) := by decide +kernel
theorem dX0_find_150 : decode cX0_find 150 = .ok (.lstore 7, 2) := by decide +kernel
theorem dX0_find_152 : decode cX0_find 152 = .ok (.iload 14, 2) := by decide +kernel
theorem dX0_find_154 : decode cX0_find 154 = .ok (.istore 9, 2) := by decide +kernel
theorem dX0_find_156 : decode cX0_find 156 = .ok (.lload 12, 2) := by decide +kernel
theorem dX0_find_158 : decode cX0_find 158 = .ok (.lstore 10, 2) := by decide +kernel
theorem dX0_find_160 : decode cX0_find 160 = .ok (.lload 12, 2) := by decide +kernel
theorem dX0_find_162 : decode cX0_find 162 = .ok (.aload_n 1, 1) := by decide +kernel
theorem dX0_find_163 : decode cX0_find 163 = .ok (.iload 14, 2) := by decide +kernel
theorem dX0_find_165 : decode cX0_find 165 = .ok (.iconst 1, 1) := by decide +kernel
theorem dX0_find_166 : decode cX0_find 166 = .ok (.iadd, 1) := by decide +kernel
theorem dX0_find_167 : decode cX0_find 167 = .ok (.invokevirtual 100, 3) := by decide +kernel
theorem dX0_find_170 : decode cX0_find 170 = .ok (.lcmp, 1) := by decide +kernel
theorem dX0_find_171 : decode cX0_find 171 = .ok (.ifCond .gt 14, 3) := by decide +kernel
theorem dX0_find_174 : decode cX0_find 174 = .ok (.aload_n 2, 1) := by decide +kernel
theorem dX0_find_175 : decode cX0_find 175 = .ok (.lload 7, 2) := by decide +kernel
theorem dX0_find_177 : decode cX0_find 177 = .ok (.iload 9, 2) := by decide +kernel
theorem dX0_find_179 : decode cX0_find 179 = .ok (.lload 10, 2) := by decide +kernel
theorem dX0_find_181 : decode cX0_find 181 = .ok (.invokevirtual 122, 3) := by decide +kernel
theorem dX0_find_184 : decode cX0_find 184 = .ok (.return_, 1) := by decide +kernel
theorem dX0_find_185 : decode cX0_find 185 = .ok (.iinc 14 1, 3) := by decide +kernel
theorem dX0_find_188 : decode cX0_find 188 = .ok (.goto (-145), 3) := by decide +kernel
theorem dX0_find_191 : decode cX0_find 191 = .ok (.return_, 1) := by decide +kernel
theorem dX0_spanFrom_0 : decode cX0_spanFrom 0 = .ok (.lload 4, 2) := by decide +kernel
theorem dX0_spanFrom_2 : decode cX0_spanFrom 2 = .ok (.lstore 8, 2) := by decide +kernel
theorem dX0_spanFrom_4 : decode cX0_spanFrom 4 = .ok (.lconst 0, 1) := by decide +kernel
theorem dX0_spanFrom_5 : decode cX0_spanFrom 5 = .ok (.lstore 10, 2) := by decide +kernel
theorem dX0_spanFrom_7 : decode cX0_spanFrom 7 = .ok (.lload 10, 2) := by decide +kernel
theorem dX0_spanFrom_9 : decode cX0_spanFrom 9 = .ok (.ldc2_w 107, 3) := by decide +kernel
theorem dX0_spanFrom_12 : decode cX0_spanFrom 12 = .ok (.lcmp, 1) := by decide +kernel
theorem dX0_spanFrom_13 : decode cX0_spanFrom 13 = .ok (.ifCond .gt 46, 3) := by decide +kernel
theorem dX0_spanFrom_16 : decode cX0_spanFrom 16 = .ok (.lload 8, 2) := by decide +kernel
theorem dX0_spanFrom_18 : decode cX0_spanFrom 18 = .ok (.lload 6, 2) := by decide +kernel
theorem dX0_spanFrom_20 : decode cX0_spanFrom 20 = .ok (.lcmp, 1) := by decide +kernel
theorem dX0_spanFrom_21 : decode cX0_spanFrom 21 = .ok (.ifCond .gt 38, 3) := by decide +kernel
theorem dX0_spanFrom_24 : decode cX0_spanFrom 24 = .ok (.lload_n 2, 1) := by decide +kernel
theorem dX0_spanFrom_25 : decode cX0_spanFrom 25 = .ok (.aload_n 0, 1) := by decide +kernel
theorem dX0_spanFrom_26 : decode cX0_spanFrom 26 = .ok (.aload_n 1, 1) := by decide +kernel
theorem dX0_spanFrom_27 : decode cX0_spanFrom 27 = .ok (.lload 8, 2) := by decide +kernel
theorem dX0_spanFrom_29 : decode cX0_spanFrom 29 = .ok (.invokevirtual 126, 3) := by decide +kernel
theorem dX0_spanFrom_32 : decode cX0_spanFrom 32 = .ok (.ladd, 1) := by decide +kernel
theorem dX0_spanFrom_33 : decode cX0_spanFrom 33 = .ok (.lstore 12, 2) := by decide +kernel
theorem dX0_spanFrom_35 : decode cX0_spanFrom 35 = .ok (.lload 12, 2) := by decide +kernel
theorem dX0_spanFrom_37 : decode cX0_spanFrom 37 = .ok (.lload 8, 2) := by decide +kernel
theorem dX0_spanFrom_39 : decode cX0_spanFrom 39 = .ok (.lcmp, 1) := by decide +kernel
theorem dX0_spanFrom_40 : decode cX0_spanFrom 40 = .ok (.ifCond .ne 6, 3) := by decide +kernel
theorem dX0_spanFrom_43 : decode cX0_spanFrom 43 = .ok (.lload 8, 2) := by decide +kernel
theorem dX0_spanFrom_45 : decode cX0_spanFrom 45 = .ok (.lreturn, 1) := by decide +kernel
theorem dX0_spanFrom_46 : decode cX0_spanFrom 46 = .ok (.lload 12, 2) := by decide +kernel
theorem dX0_spanFrom_48 : decode cX0_spanFrom 48 = .ok (.lstore 8, 2) := by decide +kernel
theorem dX0_spanFrom_50 : decode cX0_spanFrom 50 = .ok (.lload 10, 2) := by decide +kernel
theorem dX0_spanFrom_52 : decode cX0_spanFrom 52 = .ok (.lconst 1, 1) := by decide +kernel
theorem dX0_spanFrom_53 : decode cX0_spanFrom 53 = .ok (.ladd, 1) := by decide +kernel
theorem dX0_spanFrom_54 : decode cX0_spanFrom 54 = .ok (.lstore 10, 2) := by decide +kernel
theorem dX0_spanFrom_56 : decode cX0_spanFrom 56 = .ok (.goto (-49), 3) := by decide +kernel
theorem dX0_spanFrom_59 : decode cX0_spanFrom 59 = .ok (.ldc2_w 120, 3) := by decide +kernel
theorem dX0_spanFrom_62 : decode cX0_spanFrom 62 = .ok (.lreturn, 1) := by decide +kernel
theorem dX0_wholeLoad_0 : decode cX0_wholeLoad 0 = .ok (.lconst 0, 1) := by decide +kernel
theorem dX0_wholeLoad_1 : decode cX0_wholeLoad 1 = .ok (.lstore_n 1, 1) := by decide +kernel
theorem dX0_wholeLoad_2 : decode cX0_wholeLoad 2 = .ok (.iconst 0, 1) := by decide +kernel
theorem dX0_wholeLoad_3 : decode cX0_wholeLoad 3 = .ok (.istore_n 3, 1) := by decide +kernel
theorem dX0_wholeLoad_4 : decode cX0_wholeLoad 4 = .ok (.iload_n 3, 1) := by decide +kernel
theorem dX0_wholeLoad_5 : decode cX0_wholeLoad 5 = .ok (.aload_n 0, 1) := by decide +kernel
theorem dX0_wholeLoad_6 : decode cX0_wholeLoad 6 = .ok (.getfield 12, 3) := by decide +kernel
theorem dX0_wholeLoad_9 : decode cX0_wholeLoad 9 = .ok (.invokevirtual 25, 3) := by decide +kernel
theorem dX0_wholeLoad_12 : decode cX0_wholeLoad 12 = .ok (.if_icmp .ge 26, 3) := by decide +kernel
theorem dX0_wholeLoad_15 : decode cX0_wholeLoad 15 = .ok (.lload_n 1, 1) := by decide +kernel
theorem dX0_wholeLoad_16 : decode cX0_wholeLoad 16 = .ok (.aload_n 0, 1) := by decide +kernel
theorem dX0_wholeLoad_17 : decode cX0_wholeLoad 17 = .ok (.getfield 12, 3) := by decide +kernel
theorem dX0_wholeLoad_20 : decode cX0_wholeLoad 20 = .ok (.iload_n 3, 1) := by decide +kernel
theorem dX0_wholeLoad_21 : decode cX0_wholeLoad 21 = .ok (.invokevirtual 29, 3) := by decide +kernel
theorem dX0_wholeLoad_24 : decode cX0_wholeLoad 24 = .ok (.checkcast 33, 3) := by decide +kernel
theorem dX0_wholeLoad_27 : decode cX0_wholeLoad 27 = .ok (.invokevirtual 130, 3) := by decide +kernel
theorem dX0_wholeLoad_30 : decode cX0_wholeLoad 30 = .ok (.ladd, 1) := by decide +kernel
theorem dX0_wholeLoad_31 : decode cX0_wholeLoad 31 = .ok (.lstore_n 1, 1) := by decide +kernel
theorem dX0_wholeLoad_32 : decode cX0_wholeLoad 32 = .ok (.iinc 3 1, 3) := by decide +kernel
theorem dX0_wholeLoad_35 : decode cX0_wholeLoad 35 = .ok (.goto (-31), 3) := by decide +kernel
theorem dX0_wholeLoad_38 : decode cX0_wholeLoad 38 = .ok (.iconst 0, 1) := by decide +kernel
theorem dX0_wholeLoad_39 : decode cX0_wholeLoad 39 = .ok (.istore_n 3, 1) := by decide +kernel
theorem dX0_wholeLoad_40 : decode cX0_wholeLoad 40 = .ok (.iload_n 3, 1) := by decide +kernel
theorem dX0_wholeLoad_41 : decode cX0_wholeLoad 41 = .ok (.aload_n 0, 1) := by decide +kernel
theorem dX0_wholeLoad_42 : decode cX0_wholeLoad 42 = .ok (.getfield 18, 3) := by decide +kernel
theorem dX0_wholeLoad_45 : decode cX0_wholeLoad 45 = .ok (.invokevirtual 25, 3) := by decide +kernel
theorem dX0_wholeLoad_48 : decode cX0_wholeLoad 48 = .ok (.if_icmp .ge 26, 3) := by decide +kernel
theorem dX0_wholeLoad_51 : decode cX0_wholeLoad 51 = .ok (.lload_n 1, 1) := by decide +kernel
theorem dX0_wholeLoad_52 : decode cX0_wholeLoad 52 = .ok (.aload_n 0, 1) := by decide +kernel
theorem dX0_wholeLoad_53 : decode cX0_wholeLoad 53 = .ok (.getfield 18, 3) := by decide +kernel
theorem dX0_wholeLoad_56 : decode cX0_wholeLoad 56 = .ok (.iload_n 3, 1) := by decide +kernel
theorem dX0_wholeLoad_57 : decode cX0_wholeLoad 57 = .ok (.invokevirtual 29, 3) := by decide +kernel
theorem dX0_wholeLoad_60 : decode cX0_wholeLoad 60 = .ok (.checkcast 70, 3) := by decide +kernel
theorem dX0_wholeLoad_63 : decode cX0_wholeLoad 63 = .ok (.invokevirtual 133, 3) := by decide +kernel
theorem dX0_wholeLoad_66 : decode cX0_wholeLoad 66 = .ok (.ladd, 1) := by decide +kernel
theorem dX0_wholeLoad_67 : decode cX0_wholeLoad 67 = .ok (.lstore_n 1, 1) := by decide +kernel
theorem dX0_wholeLoad_68 : decode cX0_wholeLoad 68 = .ok (.iinc 3 1, 3) := by decide +kernel
theorem dX0_wholeLoad_71 : decode cX0_wholeLoad 71 = .ok (.goto (-31), 3) := by decide +kernel
theorem dX0_wholeLoad_74 : decode cX0_wholeLoad 74 = .ok (.lload_n 1, 1) := by decide +kernel
theorem dX0_wholeLoad_75 : decode cX0_wholeLoad 75 = .ok (.lreturn, 1) := by decide +kernel
theorem dX0_mayBeRun_0 : decode cX0_mayBeRun 0 = .ok (.aload_n 0, 1) := by decide +kernel
theorem dX0_mayBeRun_1 : decode cX0_mayBeRun 1 = .ok (.getfield 12, 3) := by decide +kernel
theorem dX0_mayBeRun_4 : decode cX0_mayBeRun 4 = .ok (.invokevirtual 25, 3) := by decide +kernel
theorem dX0_mayBeRun_7 : decode cX0_mayBeRun 7 = .ok (.iconst 3, 1) := by decide +kernel
theorem dX0_mayBeRun_8 : decode cX0_mayBeRun 8 = .ok (.if_icmp .gt 24, 3) := by decide +kernel
theorem dX0_mayBeRun_11 : decode cX0_mayBeRun 11 = .ok (.aload_n 0, 1) := by decide +kernel
theorem dX0_mayBeRun_12 : decode cX0_mayBeRun 12 = .ok (.getfield 18, 3) := by decide +kernel
theorem dX0_mayBeRun_15 : decode cX0_mayBeRun 15 = .ok (.invokevirtual 134, 3) := by decide +kernel
theorem dX0_mayBeRun_18 : decode cX0_mayBeRun 18 = .ok (.ifCond .eq 14, 3) := by decide +kernel
theorem dX0_mayBeRun_21 : decode cX0_mayBeRun 21 = .ok (.aload_n 0, 1) := by decide +kernel
theorem dX0_mayBeRun_22 : decode cX0_mayBeRun 22 = .ok (.invokevirtual 138, 3) := by decide +kernel
theorem dX0_mayBeRun_25 : decode cX0_mayBeRun 25 = .ok (.ldc2_w 91, 3) := by decide +kernel
theorem dX0_mayBeRun_28 : decode cX0_mayBeRun 28 = .ok (.lcmp, 1) := by decide +kernel
theorem dX0_mayBeRun_29 : decode cX0_mayBeRun 29 = .ok (.ifCond .le 5, 3) := by decide +kernel
theorem dX0_mayBeRun_32 : decode cX0_mayBeRun 32 = .ok (.iconst 0, 1) := by decide +kernel
theorem dX0_mayBeRun_33 : decode cX0_mayBeRun 33 = .ok (.ireturn, 1) := by decide +kernel
theorem dX0_mayBeRun_34 : decode cX0_mayBeRun 34 = .ok (.lconst 1, 1) := by decide +kernel
theorem dX0_mayBeRun_35 : decode cX0_mayBeRun 35 = .ok (.lstore_n 1, 1) := by decide +kernel
theorem dX0_mayBeRun_36 : decode cX0_mayBeRun 36 = .ok (.iconst 0, 1) := by decide +kernel
theorem dX0_mayBeRun_37 : decode cX0_mayBeRun 37 = .ok (.istore_n 3, 1) := by decide +kernel
theorem dX0_mayBeRun_38 : decode cX0_mayBeRun 38 = .ok (.iload_n 3, 1) := by decide +kernel
theorem dX0_mayBeRun_39 : decode cX0_mayBeRun 39 = .ok (.aload_n 0, 1) := by decide +kernel
theorem dX0_mayBeRun_40 : decode cX0_mayBeRun 40 = .ok (.getfield 12, 3) := by decide +kernel
theorem dX0_mayBeRun_43 : decode cX0_mayBeRun 43 = .ok (.invokevirtual 25, 3) := by decide +kernel
theorem dX0_mayBeRun_46 : decode cX0_mayBeRun 46 = .ok (.if_icmp .ge 40, 3) := by decide +kernel
theorem dX0_mayBeRun_49 : decode cX0_mayBeRun 49 = .ok (.aload_n 0, 1) := by decide +kernel
theorem dX0_mayBeRun_50 : decode cX0_mayBeRun 50 = .ok (.getfield 12, 3) := by decide +kernel
theorem dX0_mayBeRun_53 : decode cX0_mayBeRun 53 = .ok (.iload_n 3, 1) := by decide +kernel
theorem dX0_mayBeRun_54 : decode cX0_mayBeRun 54 = .ok (.invokevirtual 29, 3) := by decide +kernel
theorem dX0_mayBeRun_57 : decode cX0_mayBeRun 57 = .ok (.checkcast 33, 3) := by decide +kernel
theorem dX0_mayBeRun_60 : decode cX0_mayBeRun 60 = .ok (.astore 4, 2) := by decide +kernel
theorem dX0_mayBeRun_62 : decode cX0_mayBeRun 62 = .ok (.lload_n 1, 1) := by decide +kernel
theorem dX0_mayBeRun_63 : decode cX0_mayBeRun 63 = .ok (.aload 4, 2) := by decide +kernel
theorem dX0_mayBeRun_65 : decode cX0_mayBeRun 65 = .ok (.getfield 109, 3) := by decide +kernel
theorem dX0_mayBeRun_68 : decode cX0_mayBeRun 68 = .ok (.lmul, 1) := by decide +kernel
theorem dX0_mayBeRun_69 : decode cX0_mayBeRun 69 = .ok (.lstore_n 1, 1) := by decide +kernel
theorem dX0_mayBeRun_70 : decode cX0_mayBeRun 70 = .ok (.aload 4, 2) := by decide +kernel
theorem dX0_mayBeRun_72 : decode cX0_mayBeRun 72 = .ok (.invokevirtual 141, 3) := by decide +kernel
theorem dX0_mayBeRun_75 : decode cX0_mayBeRun 75 = .ok (.ifCond .ne 5, 3) := by decide +kernel
theorem dX0_mayBeRun_78 : decode cX0_mayBeRun 78 = .ok (.iconst 0, 1) := by decide +kernel
theorem dX0_mayBeRun_79 : decode cX0_mayBeRun 79 = .ok (.ireturn, 1) := by decide +kernel
theorem dX0_mayBeRun_80 : decode cX0_mayBeRun 80 = .ok (.iinc 3 1, 3) := by decide +kernel
theorem dX0_mayBeRun_83 : decode cX0_mayBeRun 83 = .ok (.goto (-45), 3) := by decide +kernel
theorem dX0_mayBeRun_86 : decode cX0_mayBeRun 86 = .ok (.lload_n 1, 1) := by decide +kernel
theorem dX0_mayBeRun_87 : decode cX0_mayBeRun 87 = .ok (.ldc2_w 144, 3) := by decide +kernel
theorem dX0_mayBeRun_90 : decode cX0_mayBeRun 90 = .ok (.lcmp, 1) := by decide +kernel
theorem dX0_mayBeRun_91 : decode cX0_mayBeRun 91 = .ok (.ifCond .gt 7, 3) := by decide +kernel
theorem dX0_mayBeRun_94 : decode cX0_mayBeRun 94 = .ok (.iconst 1, 1) := by decide +kernel
theorem dX0_mayBeRun_95 : decode cX0_mayBeRun 95 = .ok (.goto 4, 3) := by decide +kernel
theorem dX0_mayBeRun_98 : decode cX0_mayBeRun 98 = .ok (.iconst 0, 1) := by decide +kernel
theorem dX0_mayBeRun_99 : decode cX0_mayBeRun 99 = .ok (.ireturn, 1) := by decide +kernel
theorem dX0_tellsAnyPhase_0 : decode cX0_tellsAnyPhase 0 = .ok (.iconst 0, 1) := by decide +kernel
theorem dX0_tellsAnyPhase_1 : decode cX0_tellsAnyPhase 1 = .ok (.istore_n 1, 1) := by decide +kernel
theorem dX0_tellsAnyPhase_2 : decode cX0_tellsAnyPhase 2 = .ok (.iload_n 1, 1) := by decide +kernel
theorem dX0_tellsAnyPhase_3 : decode cX0_tellsAnyPhase 3 = .ok (.aload_n 0, 1) := by decide +kernel
theorem dX0_tellsAnyPhase_4 : decode cX0_tellsAnyPhase 4 = .ok (.getfield 12, 3) := by decide +kernel
theorem dX0_tellsAnyPhase_7 : decode cX0_tellsAnyPhase 7 = .ok (.invokevirtual 25, 3) := by decide +kernel
theorem dX0_tellsAnyPhase_10 : decode cX0_tellsAnyPhase 10 = .ok (.if_icmp .ge 28, 3) := by decide +kernel
theorem dX0_tellsAnyPhase_13 : decode cX0_tellsAnyPhase 13 = .ok (.aload_n 0, 1) := by decide +kernel
theorem dX0_tellsAnyPhase_14 : decode cX0_tellsAnyPhase 14 = .ok (.getfield 12, 3) := by decide +kernel
theorem dX0_tellsAnyPhase_17 : decode cX0_tellsAnyPhase 17 = .ok (.iload_n 1, 1) := by decide +kernel
theorem dX0_tellsAnyPhase_18 : decode cX0_tellsAnyPhase 18 = .ok (.invokevirtual 29, 3) := by decide +kernel
theorem dX0_tellsAnyPhase_21 : decode cX0_tellsAnyPhase 21 = .ok (.checkcast 33, 3) := by decide +kernel
theorem dX0_tellsAnyPhase_24 : decode cX0_tellsAnyPhase 24 = .ok (.invokevirtual 146, 3) := by decide +kernel
theorem dX0_tellsAnyPhase_27 : decode cX0_tellsAnyPhase 27 = .ok (.ifCond .eq 5, 3) := by decide +kernel
theorem dX0_tellsAnyPhase_30 : decode cX0_tellsAnyPhase 30 = .ok (.iconst 1, 1) := by decide +kernel
theorem dX0_tellsAnyPhase_31 : decode cX0_tellsAnyPhase 31 = .ok (.ireturn, 1) := by decide +kernel
theorem dX0_tellsAnyPhase_32 : decode cX0_tellsAnyPhase 32 = .ok (.iinc 1 1, 3) := by decide +kernel
theorem dX0_tellsAnyPhase_35 : decode cX0_tellsAnyPhase 35 = .ok (.goto (-33), 3) := by decide +kernel
theorem dX0_tellsAnyPhase_38 : decode cX0_tellsAnyPhase 38 = .ok (.iconst 0, 1) := by decide +kernel
theorem dX0_tellsAnyPhase_39 : decode cX0_tellsAnyPhase 39 = .ok (.ireturn, 1) := by decide +kernel
theorem dX1_init_0 : decode cX1_init 0 = .ok (.aload_n 0, 1) := by decide +kernel
theorem dX1_init_1 : decode cX1_init 1 = .ok (.invokespecial 3, 3) := by decide +kernel
theorem dX1_init_4 : decode cX1_init 4 = .ok (.aload_n 0, 1) := by decide +kernel
theorem dX1_init_5 : decode cX1_init 5 = .ok (.ldc2_w 9, 3) := by decide +kernel
theorem dX1_init_8 : decode cX1_init 8 = .ok (.putfield 11, 3) := by decide +kernel
theorem dX1_init_11 : decode cX1_init 11 = .ok (.return_, 1) := by decide +kernel
theorem dX1_start_0 : decode cX1_start 0 = .ok (.aload_n 0, 1) := by decide +kernel
theorem dX1_start_1 : decode cX1_start 1 = .ok (.iconst 1, 1) := by decide +kernel
theorem dX1_start_2 : decode cX1_start 2 = .ok (.putfield 17, 3) := by decide +kernel
theorem dX1_start_5 : decode cX1_start 5 = .ok (.aload_n 0, 1) := by decide +kernel
theorem dX1_start_6 : decode cX1_start 6 = .ok (.ldc2_w 9, 3) := by decide +kernel
theorem dX1_start_9 : decode cX1_start 9 = .ok (.putfield 11, 3) := by decide +kernel
theorem dX1_start_12 : decode cX1_start 12 = .ok (.return_, 1) := by decide +kernel
theorem dX1_tell_0 : decode cX1_tell 0 = .ok (.aload_n 0, 1) := by decide +kernel
theorem dX1_tell_1 : decode cX1_tell 1 = .ok (.lload_n 1, 1) := by decide +kernel
theorem dX1_tell_2 : decode cX1_tell 2 = .ok (.putfield 11, 3) := by decide +kernel
theorem dX1_tell_5 : decode cX1_tell 5 = .ok (.aload_n 0, 1) := by decide +kernel
theorem dX1_tell_6 : decode cX1_tell 6 = .ok (.iload_n 3, 1) := by decide +kernel
theorem dX1_tell_7 : decode cX1_tell 7 = .ok (.putfield 21, 3) := by decide +kernel
theorem dX1_tell_10 : decode cX1_tell 10 = .ok (.aload_n 0, 1) := by decide +kernel
theorem dX1_tell_11 : decode cX1_tell 11 = .ok (.lload 4, 2) := by decide +kernel
theorem dX1_tell_13 : decode cX1_tell 13 = .ok (.putfield 25, 3) := by decide +kernel
theorem dX1_tell_16 : decode cX1_tell 16 = .ok (.return_, 1) := by decide +kernel
theorem dX2_init_0 : decode cX2_init 0 = .ok (.aload_n 0, 1) := by decide +kernel
theorem dX2_init_1 : decode cX2_init 1 = .ok (.invokespecial 3, 3) := by decide +kernel
theorem dX2_init_4 : decode cX2_init 4 = .ok (.aload_n 0, 1) := by decide +kernel
theorem dX2_init_5 : decode cX2_init 5 = .ok (.lconst 1, 1) := by decide +kernel
theorem dX2_init_6 : decode cX2_init 6 = .ok (.putfield 9, 3) := by decide +kernel
theorem dX2_init_9 : decode cX2_init 9 = .ok (.aload_n 0, 1) := by decide +kernel
theorem dX2_init_10 : decode cX2_init 10 = .ok (.iconst 1, 1) := by decide +kernel
theorem dX2_init_11 : decode cX2_init 11 = .ok (.putfield 15, 3) := by decide +kernel
theorem dX2_init_14 : decode cX2_init 14 = .ok (.aload_n 0, 1) := by decide +kernel
theorem dX2_init_15 : decode cX2_init 15 = .ok (.iload_n 1, 1) := by decide +kernel
theorem dX2_init_16 : decode cX2_init 16 = .ok (.putfield 19, 3) := by decide +kernel
theorem dX2_init_19 : decode cX2_init 19 = .ok (.aload_n 0, 1) := by decide +kernel
theorem dX2_init_20 : decode cX2_init 20 = .ok (.lload_n 2, 1) := by decide +kernel
theorem dX2_init_21 : decode cX2_init 21 = .ok (.putfield 22, 3) := by decide +kernel
theorem dX2_init_24 : decode cX2_init 24 = .ok (.aload_n 0, 1) := by decide +kernel
theorem dX2_init_25 : decode cX2_init 25 = .ok (.lload 4, 2) := by decide +kernel
theorem dX2_init_27 : decode cX2_init 27 = .ok (.putfield 25, 3) := by decide +kernel
theorem dX2_init_30 : decode cX2_init 30 = .ok (.return_, 1) := by decide +kernel
theorem dX2_cost_0 : decode cX2_cost 0 = .ok (.aload_n 0, 1) := by decide +kernel
theorem dX2_cost_1 : decode cX2_cost 1 = .ok (.getfield 22, 3) := by decide +kernel
theorem dX2_cost_4 : decode cX2_cost 4 = .ok (.aload_n 0, 1) := by decide +kernel
theorem dX2_cost_5 : decode cX2_cost 5 = .ok (.getfield 28, 3) := by decide +kernel
theorem dX2_cost_8 : decode cX2_cost 8 = .ok (.ladd, 1) := by decide +kernel
theorem dX2_cost_9 : decode cX2_cost 9 = .ok (.lreturn, 1) := by decide +kernel
theorem dX2_activationsIn_0 : decode cX2_activationsIn 0 = .ok (.lload_n 1, 1) := by decide +kernel
theorem dX2_activationsIn_1 : decode cX2_activationsIn 1 = .ok (.aload_n 0, 1) := by decide +kernel
theorem dX2_activationsIn_2 : decode cX2_activationsIn 2 = .ok (.getfield 9, 3) := by decide +kernel
theorem dX2_activationsIn_5 : decode cX2_activationsIn 5 = .ok (.invokestatic 31, 3) := by decide +kernel
theorem dX2_activationsIn_8 : decode cX2_activationsIn 8 = .ok (.aload_n 0, 1) := by decide +kernel
theorem dX2_activationsIn_9 : decode cX2_activationsIn 9 = .ok (.getfield 15, 3) := by decide +kernel
theorem dX2_activationsIn_12 : decode cX2_activationsIn 12 = .ok (.i2l, 1) := by decide +kernel
theorem dX2_activationsIn_13 : decode cX2_activationsIn 13 = .ok (.lload_n 1, 1) := by decide +kernel
theorem dX2_activationsIn_14 : decode cX2_activationsIn 14 = .ok (.aload_n 0, 1) := by decide +kernel
theorem dX2_activationsIn_15 : decode cX2_activationsIn 15 = .ok (.getfield 35, 3) := by decide +kernel
theorem dX2_activationsIn_18 : decode cX2_activationsIn 18 = .ok (.ladd, 1) := by decide +kernel
theorem dX2_activationsIn_19 : decode cX2_activationsIn 19 = .ok (.aload_n 0, 1) := by decide +kernel
theorem dX2_activationsIn_20 : decode cX2_activationsIn 20 = .ok (.getfield 25, 3) := by decide +kernel
theorem dX2_activationsIn_23 : decode cX2_activationsIn 23 = .ok (.invokestatic 31, 3) := by decide +kernel
theorem dX2_activationsIn_26 : decode cX2_activationsIn 26 = .ok (.lmul, 1) := by decide +kernel
theorem dX2_activationsIn_27 : decode cX2_activationsIn 27 = .ok (.invokestatic 38, 3) := by decide +kernel
theorem dX2_activationsIn_30 : decode cX2_activationsIn 30 = .ok (.lreturn, 1) := by decide +kernel
theorem dX2_laterOf_0 : decode cX2_laterOf 0 = .ok (.iload_n 1, 1) := by decide +kernel
theorem dX2_laterOf_1 : decode cX2_laterOf 1 = .ok (.i2l, 1) := by decide +kernel
theorem dX2_laterOf_2 : decode cX2_laterOf 2 = .ok (.aload_n 0, 1) := by decide +kernel
theorem dX2_laterOf_3 : decode cX2_laterOf 3 = .ok (.getfield 15, 3) := by decide +kernel
theorem dX2_laterOf_6 : decode cX2_laterOf 6 = .ok (.i2l, 1) := by decide +kernel
theorem dX2_laterOf_7 : decode cX2_laterOf 7 = .ok (.invokestatic 43, 3) := by decide +kernel
theorem dX2_laterOf_10 : decode cX2_laterOf 10 = .ok (.aload_n 0, 1) := by decide +kernel
theorem dX2_laterOf_11 : decode cX2_laterOf 11 = .ok (.getfield 25, 3) := by decide +kernel
theorem dX2_laterOf_14 : decode cX2_laterOf 14 = .ok (.lmul, 1) := by decide +kernel
theorem dX2_laterOf_15 : decode cX2_laterOf 15 = .ok (.aload_n 0, 1) := by decide +kernel
theorem dX2_laterOf_16 : decode cX2_laterOf 16 = .ok (.getfield 35, 3) := by decide +kernel
theorem dX2_laterOf_19 : decode cX2_laterOf 19 = .ok (.lsub, 1) := by decide +kernel
theorem dX2_laterOf_20 : decode cX2_laterOf 20 = .ok (.lstore_n 2, 1) := by decide +kernel
theorem dX2_laterOf_21 : decode cX2_laterOf 21 = .ok (.iload_n 1, 1) := by decide +kernel
theorem dX2_laterOf_22 : decode cX2_laterOf 22 = .ok (.i2l, 1) := by decide +kernel
theorem dX2_laterOf_23 : decode cX2_laterOf 23 = .ok (.aload_n 0, 1) := by decide +kernel
theorem dX2_laterOf_24 : decode cX2_laterOf 24 = .ok (.getfield 9, 3) := by decide +kernel
theorem dX2_laterOf_27 : decode cX2_laterOf 27 = .ok (.lmul, 1) := by decide +kernel
theorem dX2_laterOf_28 : decode cX2_laterOf 28 = .ok (.lload_n 2, 1) := by decide +kernel
theorem dX2_laterOf_29 : decode cX2_laterOf 29 = .ok (.invokestatic 46, 3) := by decide +kernel
theorem dX2_laterOf_32 : decode cX2_laterOf 32 = .ok (.lconst 0, 1) := by decide +kernel
theorem dX2_laterOf_33 : decode cX2_laterOf 33 = .ok (.invokestatic 46, 3) := by decide +kernel
theorem dX2_laterOf_36 : decode cX2_laterOf 36 = .ok (.lreturn, 1) := by decide +kernel
theorem dX2_load_0 : decode cX2_load 0 = .ok (.ldc2_w 49, 3) := by decide +kernel
theorem dX2_load_3 : decode cX2_load 3 = .ok (.aload_n 0, 1) := by decide +kernel
theorem dX2_load_4 : decode cX2_load 4 = .ok (.getfield 15, 3) := by decide +kernel
theorem dX2_load_7 : decode cX2_load 7 = .ok (.i2l, 1) := by decide +kernel
theorem dX2_load_8 : decode cX2_load 8 = .ok (.lmul, 1) := by decide +kernel
theorem dX2_load_9 : decode cX2_load 9 = .ok (.aload_n 0, 1) := by decide +kernel
theorem dX2_load_10 : decode cX2_load 10 = .ok (.invokevirtual 51, 3) := by decide +kernel
theorem dX2_load_13 : decode cX2_load 13 = .ok (.lmul, 1) := by decide +kernel
theorem dX2_load_14 : decode cX2_load 14 = .ok (.aload_n 0, 1) := by decide +kernel
theorem dX2_load_15 : decode cX2_load 15 = .ok (.getfield 25, 3) := by decide +kernel
theorem dX2_load_18 : decode cX2_load 18 = .ok (.invokestatic 43, 3) := by decide +kernel
theorem dX2_load_21 : decode cX2_load 21 = .ok (.lreturn, 1) := by decide +kernel
theorem dX2_leastShare_0 : decode cX2_leastShare 0 = .ok (.ldc2_w 49, 3) := by decide +kernel
theorem dX2_leastShare_3 : decode cX2_leastShare 3 = .ok (.aload_n 0, 1) := by decide +kernel
theorem dX2_leastShare_4 : decode cX2_leastShare 4 = .ok (.invokevirtual 51, 3) := by decide +kernel
theorem dX2_leastShare_7 : decode cX2_leastShare 7 = .ok (.lmul, 1) := by decide +kernel
theorem dX2_leastShare_8 : decode cX2_leastShare 8 = .ok (.aload_n 0, 1) := by decide +kernel
theorem dX2_leastShare_9 : decode cX2_leastShare 9 = .ok (.getfield 9, 3) := by decide +kernel
theorem dX2_leastShare_12 : decode cX2_leastShare 12 = .ok (.invokestatic 43, 3) := by decide +kernel
theorem dX2_leastShare_15 : decode cX2_leastShare 15 = .ok (.aload_n 0, 1) := by decide +kernel
theorem dX2_leastShare_16 : decode cX2_leastShare 16 = .ok (.invokevirtual 55, 3) := by decide +kernel
theorem dX2_leastShare_19 : decode cX2_leastShare 19 = .ok (.invokestatic 38, 3) := by decide +kernel
theorem dX2_leastShare_22 : decode cX2_leastShare 22 = .ok (.lreturn, 1) := by decide +kernel
theorem dX3_init_0 : decode cX3_init 0 = .ok (.aload_n 0, 1) := by decide +kernel
theorem dX3_init_1 : decode cX3_init 1 = .ok (.invokespecial 3, 3) := by decide +kernel
theorem dX3_init_4 : decode cX3_init 4 = .ok (.aload_n 0, 1) := by decide +kernel
theorem dX3_init_5 : decode cX3_init 5 = .ok (.iconst 3, 1) := by decide +kernel
theorem dX3_init_6 : decode cX3_init 6 = .ok (.newarray .long, 2) := by decide +kernel
theorem dX3_init_8 : decode cX3_init 8 = .ok (.putfield 9, 3) := by decide +kernel
theorem dX3_init_11 : decode cX3_init 11 = .ok (.aload_n 0, 1) := by decide +kernel
theorem dX3_init_12 : decode cX3_init 12 = .ok (.iconst 3, 1) := by decide +kernel
theorem dX3_init_13 : decode cX3_init 13 = .ok (.newarray .int, 2) := by decide +kernel
theorem dX3_init_15 : decode cX3_init 15 = .ok (.putfield 15, 3) := by decide +kernel
theorem dX3_init_18 : decode cX3_init 18 = .ok (.aload_n 0, 1) := by decide +kernel
theorem dX3_init_19 : decode cX3_init 19 = .ok (.iconst 3, 1) := by decide +kernel
theorem dX3_init_20 : decode cX3_init 20 = .ok (.newarray .long, 2) := by decide +kernel
theorem dX3_init_22 : decode cX3_init 22 = .ok (.putfield 19, 3) := by decide +kernel
theorem dX3_init_25 : decode cX3_init 25 = .ok (.aload_n 0, 1) := by decide +kernel
theorem dX3_init_26 : decode cX3_init 26 = .ok (.iconst 3, 1) := by decide +kernel
theorem dX3_init_27 : decode cX3_init 27 = .ok (.newarray .long, 2) := by decide +kernel
theorem dX3_init_29 : decode cX3_init 29 = .ok (.putfield 22, 3) := by decide +kernel
theorem dX3_init_32 : decode cX3_init 32 = .ok (.aload_n 0, 1) := by decide +kernel
theorem dX3_init_33 : decode cX3_init 33 = .ok (.iconst 3, 1) := by decide +kernel
theorem dX3_init_34 : decode cX3_init 34 = .ok (.newarray .long, 2) := by decide +kernel
theorem dX3_init_36 : decode cX3_init 36 = .ok (.putfield 25, 3) := by decide +kernel
theorem dX3_init_39 : decode cX3_init 39 = .ok (.aload_n 0, 1) := by decide +kernel
theorem dX3_init_40 : decode cX3_init 40 = .ok (.iconst 3, 1) := by decide +kernel
theorem dX3_init_41 : decode cX3_init 41 = .ok (.newarray .long, 2) := by decide +kernel
theorem dX3_init_43 : decode cX3_init 43 = .ok (.putfield 28, 3) := by decide +kernel
theorem dX3_init_46 : decode cX3_init 46 = .ok (.aload_n 0, 1) := by decide +kernel
theorem dX3_init_47 : decode cX3_init 47 = .ok (.iconst 3, 1) := by decide +kernel
theorem dX3_init_48 : decode cX3_init 48 = .ok (.newarray .long, 2) := by decide +kernel
theorem dX3_init_50 : decode cX3_init 50 = .ok (.putfield 31, 3) := by decide +kernel
theorem dX3_init_53 : decode cX3_init 53 = .ok (.return_, 1) := by decide +kernel
theorem dX3_longestOf_0 : decode cX3_longestOf 0 = .ok (.iload_n 1, 1) := by decide +kernel
theorem dX3_longestOf_1 : decode cX3_longestOf 1 = .ok (.ifCond .lt 20, 3) := by decide +kernel
theorem dX3_longestOf_4 : decode cX3_longestOf 4 = .ok (.iload_n 1, 1) := by decide +kernel
theorem dX3_longestOf_5 : decode cX3_longestOf 5 = .ok (.aload_n 0, 1) := by decide +kernel
theorem dX3_longestOf_6 : decode cX3_longestOf 6 = .ok (.getfield 34, 3) := by decide +kernel
theorem dX3_longestOf_9 : decode cX3_longestOf 9 = .ok (.if_icmp .ge 12, 3) := by decide +kernel
theorem dX3_longestOf_12 : decode cX3_longestOf 12 = .ok (.aload_n 0, 1) := by decide +kernel
theorem dX3_longestOf_13 : decode cX3_longestOf 13 = .ok (.getfield 9, 3) := by decide +kernel
theorem dX3_longestOf_16 : decode cX3_longestOf 16 = .ok (.iload_n 1, 1) := by decide +kernel
theorem dX3_longestOf_17 : decode cX3_longestOf 17 = .ok (.laload, 1) := by decide +kernel
theorem dX3_longestOf_18 : decode cX3_longestOf 18 = .ok (.goto 6, 3) := by decide +kernel
theorem dX3_longestOf_21 : decode cX3_longestOf 21 = .ok (.ldc2_w 38, 3) := by decide +kernel
theorem dX3_longestOf_24 : decode cX3_longestOf 24 = .ok (.lreturn, 1) := by decide +kernel
theorem dX3_runAll_0 : decode cX3_runAll 0 = .ok (.aload_n 0, 1) := by decide +kernel
theorem dX3_runAll_1 : decode cX3_runAll 1 = .ok (.aload_n 1, 1) := by decide +kernel
theorem dX3_runAll_2 : decode cX3_runAll 2 = .ok (.invokevirtual 40, 3) := by decide +kernel
theorem dX3_runAll_5 : decode cX3_runAll 5 = .ok (.lconst 1, 1) := by decide +kernel
theorem dX3_runAll_6 : decode cX3_runAll 6 = .ok (.lstore_n 2, 1) := by decide +kernel
theorem dX3_runAll_7 : decode cX3_runAll 7 = .ok (.iconst 0, 1) := by decide +kernel
theorem dX3_runAll_8 : decode cX3_runAll 8 = .ok (.istore 4, 2) := by decide +kernel
theorem dX3_runAll_10 : decode cX3_runAll 10 = .ok (.iload 4, 2) := by decide +kernel
theorem dX3_runAll_12 : decode cX3_runAll 12 = .ok (.aload_n 0, 1) := by decide +kernel
theorem dX3_runAll_13 : decode cX3_runAll 13 = .ok (.getfield 34, 3) := by decide +kernel
theorem dX3_runAll_16 : decode cX3_runAll 16 = .ok (.if_icmp .ge 41, 3) := by decide +kernel
theorem dX3_runAll_19 : decode cX3_runAll 19 = .ok (.aload_n 0, 1) := by decide +kernel
theorem dX3_runAll_20 : decode cX3_runAll 20 = .ok (.getfield 9, 3) := by decide +kernel
theorem dX3_runAll_23 : decode cX3_runAll 23 = .ok (.iload 4, 2) := by decide +kernel
theorem dX3_runAll_25 : decode cX3_runAll 25 = .ok (.lconst 0, 1) := by decide +kernel
theorem dX3_runAll_26 : decode cX3_runAll 26 = .ok (.lastore, 1) := by decide +kernel
theorem dX3_runAll_27 : decode cX3_runAll 27 = .ok (.aload_n 0, 1) := by decide +kernel
theorem dX3_runAll_28 : decode cX3_runAll 28 = .ok (.getfield 25, 3) := by decide +kernel
theorem dX3_runAll_31 : decode cX3_runAll 31 = .ok (.iload 4, 2) := by decide +kernel
theorem dX3_runAll_33 : decode cX3_runAll 33 = .ok (.laload, 1) := by decide +kernel
theorem dX3_runAll_34 : decode cX3_runAll 34 = .ok (.ldc2_w 38, 3) := by decide +kernel
theorem dX3_runAll_37 : decode cX3_runAll 37 = .ok (.lcmp, 1) := by decide +kernel
theorem dX3_runAll_38 : decode cX3_runAll 38 = .ok (.ifCond .ne 13, 3) := by decide +kernel
theorem dX3_runAll_41 : decode cX3_runAll 41 = .ok (.lload_n 2, 1) := by decide +kernel
theorem dX3_runAll_42 : decode cX3_runAll 42 = .ok (.aload_n 0, 1) := by decide +kernel
theorem dX3_runAll_43 : decode cX3_runAll 43 = .ok (.getfield 22, 3) := by decide +kernel
theorem dX3_runAll_46 : decode cX3_runAll 46 = .ok (.iload 4, 2) := by decide +kernel
theorem dX3_runAll_48 : decode cX3_runAll 48 = .ok (.laload, 1) := by decide +kernel
theorem dX3_runAll_49 : decode cX3_runAll 49 = .ok (.lmul, 1) := by decide +kernel
theorem dX3_runAll_50 : decode cX3_runAll 50 = .ok (.lstore_n 2, 1) := by decide +kernel
theorem dX3_runAll_51 : decode cX3_runAll 51 = .ok (.iinc 4 1, 3) := by decide +kernel
theorem dX3_runAll_54 : decode cX3_runAll 54 = .ok (.goto (-44), 3) := by decide +kernel
theorem dX3_runAll_57 : decode cX3_runAll 57 = .ok (.lconst 0, 1) := by decide +kernel
theorem dX3_runAll_58 : decode cX3_runAll 58 = .ok (.lstore 4, 2) := by decide +kernel
theorem dX3_runAll_60 : decode cX3_runAll 60 = .ok (.lload 4, 2) := by decide +kernel
theorem dX3_runAll_62 : decode cX3_runAll 62 = .ok (.lload_n 2, 1) := by decide +kernel
theorem dX3_runAll_63 : decode cX3_runAll 63 = .ok (.lcmp, 1) := by decide +kernel
theorem dX3_runAll_64 : decode cX3_runAll 64 = .ok (.ifCond .ge 31, 3) := by decide +kernel
theorem dX3_runAll_67 : decode cX3_runAll 67 = .ok (.lload 4, 2) := by decide +kernel
theorem dX3_runAll_69 : decode cX3_runAll 69 = .ok (.ldc2_w 46, 3) := by decide +kernel
theorem dX3_runAll_72 : decode cX3_runAll 72 = .ok (.lcmp, 1) := by decide +kernel
theorem dX3_runAll_73 : decode cX3_runAll 73 = .ok (.ifCond .ge 22, 3) := by decide +kernel
theorem dX3_runAll_76 : decode cX3_runAll 76 = .ok (.aload_n 0, 1) := by decide +kernel
theorem dX3_runAll_77 : decode cX3_runAll 77 = .ok (.lload 4, 2) := by decide +kernel
theorem dX3_runAll_79 : decode cX3_runAll 79 = .ok (.invokevirtual 48, 3) := by decide +kernel
theorem dX3_runAll_82 : decode cX3_runAll 82 = .ok (.aload_n 0, 1) := by decide +kernel
theorem dX3_runAll_83 : decode cX3_runAll 83 = .ok (.invokevirtual 52, 3) := by decide +kernel
theorem dX3_runAll_86 : decode cX3_runAll 86 = .ok (.lload 4, 2) := by decide +kernel
theorem dX3_runAll_88 : decode cX3_runAll 88 = .ok (.lconst 1, 1) := by decide +kernel
theorem dX3_runAll_89 : decode cX3_runAll 89 = .ok (.ladd, 1) := by decide +kernel
theorem dX3_runAll_90 : decode cX3_runAll 90 = .ok (.lstore 4, 2) := by decide +kernel
theorem dX3_runAll_92 : decode cX3_runAll 92 = .ok (.goto (-32), 3) := by decide +kernel
theorem dX3_runAll_95 : decode cX3_runAll 95 = .ok (.aload_n 0, 1) := by decide +kernel
theorem dX3_runAll_96 : decode cX3_runAll 96 = .ok (.iconst 1, 1) := by decide +kernel
theorem dX3_runAll_97 : decode cX3_runAll 97 = .ok (.putfield 55, 3) := by decide +kernel
theorem dX3_runAll_100 : decode cX3_runAll 100 = .ok (.return_, 1) := by decide +kernel
theorem dX3_take_0 : decode cX3_take 0 = .ok (.aload_n 0, 1) := by decide +kernel
theorem dX3_take_1 : decode cX3_take 1 = .ok (.aload_n 1, 1) := by decide +kernel
theorem dX3_take_2 : decode cX3_take 2 = .ok (.invokevirtual 59, 3) := by decide +kernel
theorem dX3_take_5 : decode cX3_take 5 = .ok (.iconst 3, 1) := by decide +kernel
theorem dX3_take_6 : decode cX3_take 6 = .ok (.invokestatic 65, 3) := by decide +kernel
theorem dX3_take_9 : decode cX3_take 9 = .ok (.putfield 34, 3) := by decide +kernel
theorem dX3_take_12 : decode cX3_take 12 = .ok (.lconst 1, 1) := by decide +kernel
theorem dX3_take_13 : decode cX3_take 13 = .ok (.lstore_n 2, 1) := by decide +kernel
theorem dX3_take_14 : decode cX3_take 14 = .ok (.iconst 0, 1) := by decide +kernel
theorem dX3_take_15 : decode cX3_take 15 = .ok (.istore 4, 2) := by decide +kernel
theorem dX3_take_17 : decode cX3_take 17 = .ok (.iload 4, 2) := by decide +kernel
theorem dX3_take_19 : decode cX3_take 19 = .ok (.aload_n 0, 1) := by decide +kernel
theorem dX3_take_20 : decode cX3_take 20 = .ok (.getfield 34, 3) := by decide +kernel
theorem dX3_take_23 : decode cX3_take 23 = .ok (.if_icmp .ge 78, 3) := by decide +kernel
theorem dX3_take_26 : decode cX3_take 26 = .ok (.aload_n 1, 1) := by decide +kernel
theorem dX3_take_27 : decode cX3_take 27 = .ok (.iload 4, 2) := by decide +kernel
theorem dX3_take_29 : decode cX3_take 29 = .ok (.invokevirtual 71, 3) := by decide +kernel
theorem dX3_take_32 : decode cX3_take 32 = .ok (.checkcast 44, 3) := by decide +kernel
theorem dX3_take_35 : decode cX3_take 35 = .ok (.astore 5, 2) := by decide +kernel
theorem dX3_take_37 : decode cX3_take 37 = .ok (.aload_n 0, 1) := by decide +kernel
theorem dX3_take_38 : decode cX3_take 38 = .ok (.getfield 15, 3) := by decide +kernel
theorem dX3_take_41 : decode cX3_take 41 = .ok (.iload 4, 2) := by decide +kernel
theorem dX3_take_43 : decode cX3_take 43 = .ok (.aload 5, 2) := by decide +kernel
theorem dX3_take_45 : decode cX3_take 45 = .ok (.getfield 75, 3) := by decide +kernel
theorem dX3_take_48 : decode cX3_take 48 = .ok (.iastore, 1) := by decide +kernel
theorem dX3_take_49 : decode cX3_take 49 = .ok (.aload_n 0, 1) := by decide +kernel
theorem dX3_take_50 : decode cX3_take 50 = .ok (.getfield 19, 3) := by decide +kernel
theorem dX3_take_53 : decode cX3_take 53 = .ok (.iload 4, 2) := by decide +kernel
theorem dX3_take_55 : decode cX3_take 55 = .ok (.aload 5, 2) := by decide +kernel
theorem dX3_take_57 : decode cX3_take 57 = .ok (.getfield 77, 3) := by decide +kernel
theorem dX3_take_60 : decode cX3_take 60 = .ok (.lastore, 1) := by decide +kernel
theorem dX3_take_61 : decode cX3_take 61 = .ok (.aload_n 0, 1) := by decide +kernel
theorem dX3_take_62 : decode cX3_take 62 = .ok (.getfield 22, 3) := by decide +kernel
theorem dX3_take_65 : decode cX3_take 65 = .ok (.iload 4, 2) := by decide +kernel
theorem dX3_take_67 : decode cX3_take 67 = .ok (.aload 5, 2) := by decide +kernel
theorem dX3_take_69 : decode cX3_take 69 = .ok (.getfield 80, 3) := by decide +kernel
theorem dX3_take_72 : decode cX3_take 72 = .ok (.lastore, 1) := by decide +kernel
theorem dX3_take_73 : decode cX3_take 73 = .ok (.aload_n 0, 1) := by decide +kernel
theorem dX3_take_74 : decode cX3_take 74 = .ok (.getfield 25, 3) := by decide +kernel
theorem dX3_take_77 : decode cX3_take 77 = .ok (.iload 4, 2) := by decide +kernel
theorem dX3_take_79 : decode cX3_take 79 = .ok (.aload 5, 2) := by decide +kernel
theorem dX3_take_81 : decode cX3_take 81 = .ok (.getfield 82, 3) := by decide +kernel
theorem dX3_take_84 : decode cX3_take 84 = .ok (.lastore, 1) := by decide +kernel
theorem dX3_take_85 : decode cX3_take 85 = .ok (.lload_n 2, 1) := by decide +kernel
theorem dX3_take_86 : decode cX3_take 86 = .ok (.aload 5, 2) := by decide +kernel
theorem dX3_take_88 : decode cX3_take 88 = .ok (.getfield 80, 3) := by decide +kernel
theorem dX3_take_91 : decode cX3_take 91 = .ok (.invokestatic 85, 3) := by decide +kernel
theorem dX3_take_94 : decode cX3_take 94 = .ok (.lstore_n 2, 1) := by decide +kernel
theorem dX3_take_95 : decode cX3_take 95 = .ok (.iinc 4 1, 3) := by decide +kernel
theorem dX3_take_98 : decode cX3_take 98 = .ok (.goto (-81), 3) := by decide +kernel
theorem dX3_take_101 : decode cX3_take 101 = .ok (.aload_n 0, 1) := by decide +kernel
theorem dX3_take_102 : decode cX3_take 102 = .ok (.ldc2_w 89, 3) := by decide +kernel
theorem dX3_take_105 : decode cX3_take 105 = .ok (.lload_n 2, 1) := by decide +kernel
theorem dX3_take_106 : decode cX3_take 106 = .ok (.lmul, 1) := by decide +kernel
theorem dX3_take_107 : decode cX3_take 107 = .ok (.l2i, 1) := by decide +kernel
theorem dX3_take_108 : decode cX3_take 108 = .ok (.putfield 91, 3) := by decide +kernel
theorem dX3_take_111 : decode cX3_take 111 = .ok (.return_, 1) := by decide +kernel
theorem dX3_leastCommonMultiple_0 : decode cX3_leastCommonMultiple 0 = .ok (.lload_n 0, 1) := by decide +kernel
theorem dX3_leastCommonMultiple_1 : decode cX3_leastCommonMultiple 1 = .ok (.lstore 4, 2) := by decide +kernel
theorem dX3_leastCommonMultiple_3 : decode cX3_leastCommonMultiple 3 = .ok (.iconst 0, 1) := by decide +kernel
theorem dX3_leastCommonMultiple_4 : decode cX3_leastCommonMultiple 4 = .ok (.istore 6, 2) := by decide +kernel
theorem dX3_leastCommonMultiple_6 : decode cX3_leastCommonMultiple 6 = .ok (.iload 6, 2) := by decide +kernel
theorem dX3_leastCommonMultiple_8 : decode cX3_leastCommonMultiple 8 = .ok (.i2l, 1) := by decide +kernel
theorem dX3_leastCommonMultiple_9 : decode cX3_leastCommonMultiple 9 = .ok (.ldc2_w 94, 3) := by decide +kernel
theorem dX3_leastCommonMultiple_12 : decode cX3_leastCommonMultiple 12 = .ok (.lcmp, 1) := by decide +kernel
theorem dX3_leastCommonMultiple_13 : decode cX3_leastCommonMultiple 13 = .ok (.ifCond .ge 28, 3) := by decide +kernel
theorem dX3_leastCommonMultiple_16 : decode cX3_leastCommonMultiple 16 = .ok (.lload 4, 2) := by decide +kernel
theorem dX3_leastCommonMultiple_18 : decode cX3_leastCommonMultiple 18 = .ok (.lload_n 2, 1) := by decide +kernel
theorem dX3_leastCommonMultiple_19 : decode cX3_leastCommonMultiple 19 = .ok (.lconst 1, 1) := by decide +kernel
theorem dX3_leastCommonMultiple_20 : decode cX3_leastCommonMultiple 20 = .ok (.invokestatic 96, 3) := by decide +kernel
theorem dX3_leastCommonMultiple_23 : decode cX3_leastCommonMultiple 23 = .ok (.lrem, 1) := by decide +kernel
theorem dX3_leastCommonMultiple_24 : decode cX3_leastCommonMultiple 24 = .ok (.lconst 0, 1) := by decide +kernel
theorem dX3_leastCommonMultiple_25 : decode cX3_leastCommonMultiple 25 = .ok (.lcmp, 1) := by decide +kernel
theorem dX3_leastCommonMultiple_26 : decode cX3_leastCommonMultiple 26 = .ok (.ifCond .eq 15, 3) := by decide +kernel
theorem dX3_leastCommonMultiple_29 : decode cX3_leastCommonMultiple 29 = .ok (.lload 4, 2) := by decide +kernel
theorem dX3_leastCommonMultiple_31 : decode cX3_leastCommonMultiple 31 = .ok (.lload_n 0, 1) := by decide +kernel
theorem dX3_leastCommonMultiple_32 : decode cX3_leastCommonMultiple 32 = .ok (.ladd, 1) := by decide +kernel
theorem dX3_leastCommonMultiple_33 : decode cX3_leastCommonMultiple 33 = .ok (.lstore 4, 2) := by decide +kernel
theorem dX3_leastCommonMultiple_35 : decode cX3_leastCommonMultiple 35 = .ok (.iinc 6 1, 3) := by decide +kernel
theorem dX3_leastCommonMultiple_38 : decode cX3_leastCommonMultiple 38 = .ok (.goto (-32), 3) := by decide +kernel
theorem dX3_leastCommonMultiple_41 : decode cX3_leastCommonMultiple 41 = .ok (.lload 4, 2) := by decide +kernel
theorem dX3_leastCommonMultiple_43 : decode cX3_leastCommonMultiple 43 = .ok (.lreturn, 1) := by decide +kernel
theorem dX3_start_0 : decode cX3_start 0 = .ok (.lload_n 1, 1) := by decide +kernel
theorem dX3_start_1 : decode cX3_start 1 = .ok (.lstore_n 3, 1) := by decide +kernel
theorem dX3_start_2 : decode cX3_start 2 = .ok (.iconst 0, 1) := by decide +kernel
theorem dX3_start_3 : decode cX3_start 3 = .ok (.istore 5, 2) := by decide +kernel
theorem dX3_start_5 : decode cX3_start 5 = .ok (.iload 5, 2) := by decide +kernel
theorem dX3_start_7 : decode cX3_start 7 = .ok (.aload_n 0, 1) := by decide +kernel
theorem dX3_start_8 : decode cX3_start 8 = .ok (.getfield 34, 3) := by decide +kernel
theorem dX3_start_11 : decode cX3_start 11 = .ok (.if_icmp .ge 89, 3) := by decide +kernel
theorem dX3_start_14 : decode cX3_start 14 = .ok (.aload_n 0, 1) := by decide +kernel
theorem dX3_start_15 : decode cX3_start 15 = .ok (.getfield 25, 3) := by decide +kernel
theorem dX3_start_18 : decode cX3_start 18 = .ok (.iload 5, 2) := by decide +kernel
theorem dX3_start_20 : decode cX3_start 20 = .ok (.laload, 1) := by decide +kernel
theorem dX3_start_21 : decode cX3_start 21 = .ok (.ldc2_w 38, 3) := by decide +kernel
theorem dX3_start_24 : decode cX3_start 24 = .ok (.lcmp, 1) := by decide +kernel
theorem dX3_start_25 : decode cX3_start 25 = .ok (.ifCond .ne 41, 3) := by decide +kernel
theorem dX3_start_28 : decode cX3_start 28 = .ok (.lload_n 3, 1) := by decide +kernel
theorem dX3_start_29 : decode cX3_start 29 = .ok (.aload_n 0, 1) := by decide +kernel
theorem dX3_start_30 : decode cX3_start 30 = .ok (.getfield 22, 3) := by decide +kernel
theorem dX3_start_33 : decode cX3_start 33 = .ok (.iload 5, 2) := by decide +kernel
theorem dX3_start_35 : decode cX3_start 35 = .ok (.laload, 1) := by decide +kernel
theorem dX3_start_36 : decode cX3_start 36 = .ok (.invokestatic 99, 3) := by decide +kernel
theorem dX3_start_39 : decode cX3_start 39 = .ok (.lstore 6, 2) := by decide +kernel
theorem dX3_start_41 : decode cX3_start 41 = .ok (.aload_n 0, 1) := by decide +kernel
theorem dX3_start_42 : decode cX3_start 42 = .ok (.getfield 28, 3) := by decide +kernel
theorem dX3_start_45 : decode cX3_start 45 = .ok (.iload 5, 2) := by decide +kernel
theorem dX3_start_47 : decode cX3_start 47 = .ok (.lload_n 3, 1) := by decide +kernel
theorem dX3_start_48 : decode cX3_start 48 = .ok (.lload 6, 2) := by decide +kernel
theorem dX3_start_50 : decode cX3_start 50 = .ok (.aload_n 0, 1) := by decide +kernel
theorem dX3_start_51 : decode cX3_start 51 = .ok (.getfield 22, 3) := by decide +kernel
theorem dX3_start_54 : decode cX3_start 54 = .ok (.iload 5, 2) := by decide +kernel
theorem dX3_start_56 : decode cX3_start 56 = .ok (.laload, 1) := by decide +kernel
theorem dX3_start_57 : decode cX3_start 57 = .ok (.lmul, 1) := by decide +kernel
theorem dX3_start_58 : decode cX3_start 58 = .ok (.lsub, 1) := by decide +kernel
theorem dX3_start_59 : decode cX3_start 59 = .ok (.lastore, 1) := by decide +kernel
theorem dX3_start_60 : decode cX3_start 60 = .ok (.lload 6, 2) := by decide +kernel
theorem dX3_start_62 : decode cX3_start 62 = .ok (.lstore_n 3, 1) := by decide +kernel
theorem dX3_start_63 : decode cX3_start 63 = .ok (.goto 17, 3) := by decide +kernel
theorem dX3_start_66 : decode cX3_start 66 = .ok (.aload_n 0, 1) := by decide +kernel
theorem dX3_start_67 : decode cX3_start 67 = .ok (.getfield 28, 3) := by decide +kernel
theorem dX3_start_70 : decode cX3_start 70 = .ok (.iload 5, 2) := by decide +kernel
theorem dX3_start_72 : decode cX3_start 72 = .ok (.aload_n 0, 1) := by decide +kernel
theorem dX3_start_73 : decode cX3_start 73 = .ok (.getfield 25, 3) := by decide +kernel
theorem dX3_start_76 : decode cX3_start 76 = .ok (.iload 5, 2) := by decide +kernel
theorem dX3_start_78 : decode cX3_start 78 = .ok (.laload, 1) := by decide +kernel
theorem dX3_start_79 : decode cX3_start 79 = .ok (.lastore, 1) := by decide +kernel
theorem dX3_start_80 : decode cX3_start 80 = .ok (.aload_n 0, 1) := by decide +kernel
theorem dX3_start_81 : decode cX3_start 81 = .ok (.getfield 31, 3) := by decide +kernel
theorem dX3_start_84 : decode cX3_start 84 = .ok (.iload 5, 2) := by decide +kernel
theorem dX3_start_86 : decode cX3_start 86 = .ok (.aload_n 0, 1) := by decide +kernel
theorem dX3_start_87 : decode cX3_start 87 = .ok (.getfield 19, 3) := by decide +kernel
theorem dX3_start_90 : decode cX3_start 90 = .ok (.iload 5, 2) := by decide +kernel
theorem dX3_start_92 : decode cX3_start 92 = .ok (.laload, 1) := by decide +kernel
theorem dX3_start_93 : decode cX3_start 93 = .ok (.lastore, 1) := by decide +kernel
theorem dX3_start_94 : decode cX3_start 94 = .ok (.iinc 5 1, 3) := by decide +kernel
theorem dX3_start_97 : decode cX3_start 97 = .ok (.goto (-92), 3) := by decide +kernel
theorem dX3_start_100 : decode cX3_start 100 = .ok (.return_, 1) := by decide +kernel
theorem dX3_run_0 : decode cX3_run 0 = .ok (.iconst 0, 1) := by decide +kernel
theorem dX3_run_1 : decode cX3_run 1 = .ok (.istore_n 1, 1) := by decide +kernel
theorem dX3_run_2 : decode cX3_run 2 = .ok (.iload_n 1, 1) := by decide +kernel
theorem dX3_run_3 : decode cX3_run 3 = .ok (.ldc 102, 2) := by decide +kernel
theorem dX3_run_5 : decode cX3_run 5 = .ok (.if_icmp .ge 32, 3) := by decide +kernel
theorem dX3_run_8 : decode cX3_run 8 = .ok (.aload_n 0, 1) := by decide +kernel
theorem dX3_run_9 : decode cX3_run 9 = .ok (.invokevirtual 103, 3) := by decide +kernel
theorem dX3_run_12 : decode cX3_run 12 = .ok (.ifCond .eq 25, 3) := by decide +kernel
theorem dX3_run_15 : decode cX3_run 15 = .ok (.aload_n 0, 1) := by decide +kernel
theorem dX3_run_16 : decode cX3_run 16 = .ok (.iload_n 1, 1) := by decide +kernel
theorem dX3_run_17 : decode cX3_run 17 = .ok (.invokevirtual 107, 3) := by decide +kernel
theorem dX3_run_20 : decode cX3_run 20 = .ok (.istore_n 2, 1) := by decide +kernel
theorem dX3_run_21 : decode cX3_run 21 = .ok (.iload_n 2, 1) := by decide +kernel
theorem dX3_run_22 : decode cX3_run 22 = .ok (.ifCond .lt 9, 3) := by decide +kernel
theorem dX3_run_25 : decode cX3_run 25 = .ok (.aload_n 0, 1) := by decide +kernel
theorem dX3_run_26 : decode cX3_run 26 = .ok (.iload_n 2, 1) := by decide +kernel
theorem dX3_run_27 : decode cX3_run 27 = .ok (.iload_n 1, 1) := by decide +kernel
theorem dX3_run_28 : decode cX3_run 28 = .ok (.invokevirtual 111, 3) := by decide +kernel
theorem dX3_run_31 : decode cX3_run 31 = .ok (.iinc 1 1, 3) := by decide +kernel
theorem dX3_run_34 : decode cX3_run 34 = .ok (.goto (-32), 3) := by decide +kernel
theorem dX3_run_37 : decode cX3_run 37 = .ok (.return_, 1) := by decide +kernel
theorem dX3_hasMore_0 : decode cX3_hasMore 0 = .ok (.iconst 0, 1) := by decide +kernel
theorem dX3_hasMore_1 : decode cX3_hasMore 1 = .ok (.istore_n 1, 1) := by decide +kernel
theorem dX3_hasMore_2 : decode cX3_hasMore 2 = .ok (.iload_n 1, 1) := by decide +kernel
theorem dX3_hasMore_3 : decode cX3_hasMore 3 = .ok (.aload_n 0, 1) := by decide +kernel
theorem dX3_hasMore_4 : decode cX3_hasMore 4 = .ok (.getfield 34, 3) := by decide +kernel
theorem dX3_hasMore_7 : decode cX3_hasMore 7 = .ok (.if_icmp .ge 26, 3) := by decide +kernel
theorem dX3_hasMore_10 : decode cX3_hasMore 10 = .ok (.aload_n 0, 1) := by decide +kernel
theorem dX3_hasMore_11 : decode cX3_hasMore 11 = .ok (.getfield 28, 3) := by decide +kernel
theorem dX3_hasMore_14 : decode cX3_hasMore 14 = .ok (.iload_n 1, 1) := by decide +kernel
theorem dX3_hasMore_15 : decode cX3_hasMore 15 = .ok (.laload, 1) := by decide +kernel
theorem dX3_hasMore_16 : decode cX3_hasMore 16 = .ok (.aload_n 0, 1) := by decide +kernel
theorem dX3_hasMore_17 : decode cX3_hasMore 17 = .ok (.getfield 91, 3) := by decide +kernel
theorem dX3_hasMore_20 : decode cX3_hasMore 20 = .ok (.i2l, 1) := by decide +kernel
theorem dX3_hasMore_21 : decode cX3_hasMore 21 = .ok (.lcmp, 1) := by decide +kernel
theorem dX3_hasMore_22 : decode cX3_hasMore 22 = .ok (.ifCond .ge 5, 3) := by decide +kernel
theorem dX3_hasMore_25 : decode cX3_hasMore 25 = .ok (.iconst 1, 1) := by decide +kernel
theorem dX3_hasMore_26 : decode cX3_hasMore 26 = .ok (.ireturn, 1) := by decide +kernel
theorem dX3_hasMore_27 : decode cX3_hasMore 27 = .ok (.iinc 1 1, 3) := by decide +kernel
theorem dX3_hasMore_30 : decode cX3_hasMore 30 = .ok (.goto (-28), 3) := by decide +kernel
theorem dX3_hasMore_33 : decode cX3_hasMore 33 = .ok (.iconst 0, 1) := by decide +kernel
theorem dX3_hasMore_34 : decode cX3_hasMore 34 = .ok (.ireturn, 1) := by decide +kernel
theorem dX3_chosenAt_0 : decode cX3_chosenAt 0 = .ok (.iconst (-1), 1) := by decide +kernel
theorem dX3_chosenAt_1 : decode cX3_chosenAt 1 = .ok (.istore_n 2, 1) := by decide +kernel
theorem dX3_chosenAt_2 : decode cX3_chosenAt 2 = .ok (.iconst 0, 1) := by decide +kernel
theorem dX3_chosenAt_3 : decode cX3_chosenAt 3 = .ok (.istore_n 3, 1) := by decide +kernel
theorem dX3_chosenAt_4 : decode cX3_chosenAt 4 = .ok (.iload_n 3, 1) := by decide +kernel
theorem dX3_chosenAt_5 : decode cX3_chosenAt 5 = .ok (.aload_n 0, 1) := by decide +kernel
theorem dX3_chosenAt_6 : decode cX3_chosenAt 6 = .ok (.getfield 34, 3) := by decide +kernel
theorem dX3_chosenAt_9 : decode cX3_chosenAt 9 = .ok (.if_icmp .ge 36, 3) := by decide +kernel
theorem dX3_chosenAt_12 : decode cX3_chosenAt 12 = .ok (.aload_n 0, 1) := by decide +kernel
theorem dX3_chosenAt_13 : decode cX3_chosenAt 13 = .ok (.getfield 28, 3) := by decide +kernel
theorem dX3_chosenAt_16 : decode cX3_chosenAt 16 = .ok (.iload_n 3, 1) := by decide +kernel
theorem dX3_chosenAt_17 : decode cX3_chosenAt 17 = .ok (.laload, 1) := by decide +kernel
theorem dX3_chosenAt_18 : decode cX3_chosenAt 18 = .ok (.iload_n 1, 1) := by decide +kernel
theorem dX3_chosenAt_19 : decode cX3_chosenAt 19 = .ok (.i2l, 1) := by decide +kernel
theorem dX3_chosenAt_20 : decode cX3_chosenAt 20 = .ok (.lcmp, 1) := by decide +kernel
theorem dX3_chosenAt_21 : decode cX3_chosenAt 21 = .ok (.ifCond .gt 18, 3) := by decide +kernel
theorem dX3_chosenAt_24 : decode cX3_chosenAt 24 = .ok (.iload_n 2, 1) := by decide +kernel
theorem dX3_chosenAt_25 : decode cX3_chosenAt 25 = .ok (.ifCond .lt 12, 3) := by decide +kernel
theorem dX3_chosenAt_28 : decode cX3_chosenAt 28 = .ok (.aload_n 0, 1) := by decide +kernel
theorem dX3_chosenAt_29 : decode cX3_chosenAt 29 = .ok (.iload_n 3, 1) := by decide +kernel
theorem dX3_chosenAt_30 : decode cX3_chosenAt 30 = .ok (.iload_n 2, 1) := by decide +kernel
theorem dX3_chosenAt_31 : decode cX3_chosenAt 31 = .ok (.invokevirtual 115, 3) := by decide +kernel
theorem dX3_chosenAt_34 : decode cX3_chosenAt 34 = .ok (.ifCond .eq 5, 3) := by decide +kernel
theorem dX3_chosenAt_37 : decode cX3_chosenAt 37 = .ok (.iload_n 3, 1) := by decide +kernel
theorem dX3_chosenAt_38 : decode cX3_chosenAt 38 = .ok (.istore_n 2, 1) := by decide +kernel
theorem dX3_chosenAt_39 : decode cX3_chosenAt 39 = .ok (.iinc 3 1, 3) := by decide +kernel
theorem dX3_chosenAt_42 : decode cX3_chosenAt 42 = .ok (.goto (-38), 3) := by decide +kernel
theorem dX3_chosenAt_45 : decode cX3_chosenAt 45 = .ok (.iload_n 2, 1) := by decide +kernel
theorem dX3_chosenAt_46 : decode cX3_chosenAt 46 = .ok (.ireturn, 1) := by decide +kernel
theorem dX3_goesBefore_0 : decode cX3_goesBefore 0 = .ok (.aload_n 0, 1) := by decide +kernel
theorem dX3_goesBefore_1 : decode cX3_goesBefore 1 = .ok (.getfield 15, 3) := by decide +kernel
theorem dX3_goesBefore_4 : decode cX3_goesBefore 4 = .ok (.iload_n 1, 1) := by decide +kernel
theorem dX3_goesBefore_5 : decode cX3_goesBefore 5 = .ok (.iaload, 1) := by decide +kernel
theorem dX3_goesBefore_6 : decode cX3_goesBefore 6 = .ok (.aload_n 0, 1) := by decide +kernel
theorem dX3_goesBefore_7 : decode cX3_goesBefore 7 = .ok (.getfield 15, 3) := by decide +kernel
theorem dX3_goesBefore_10 : decode cX3_goesBefore 10 = .ok (.iload_n 2, 1) := by decide +kernel
theorem dX3_goesBefore_11 : decode cX3_goesBefore 11 = .ok (.iaload, 1) := by decide +kernel
theorem dX3_goesBefore_12 : decode cX3_goesBefore 12 = .ok (.if_icmp .eq 24, 3) := by decide +kernel
theorem dX3_goesBefore_15 : decode cX3_goesBefore 15 = .ok (.aload_n 0, 1) := by decide +kernel
theorem dX3_goesBefore_16 : decode cX3_goesBefore 16 = .ok (.getfield 15, 3) := by decide +kernel
theorem dX3_goesBefore_19 : decode cX3_goesBefore 19 = .ok (.iload_n 1, 1) := by decide +kernel
theorem dX3_goesBefore_20 : decode cX3_goesBefore 20 = .ok (.iaload, 1) := by decide +kernel
theorem dX3_goesBefore_21 : decode cX3_goesBefore 21 = .ok (.aload_n 0, 1) := by decide +kernel
theorem dX3_goesBefore_22 : decode cX3_goesBefore 22 = .ok (.getfield 15, 3) := by decide +kernel
theorem dX3_goesBefore_25 : decode cX3_goesBefore 25 = .ok (.iload_n 2, 1) := by decide +kernel
theorem dX3_goesBefore_26 : decode cX3_goesBefore 26 = .ok (.iaload, 1) := by decide +kernel
theorem dX3_goesBefore_27 : decode cX3_goesBefore 27 = .ok (.if_icmp .le 7, 3) := by decide +kernel
theorem dX3_goesBefore_30 : decode cX3_goesBefore 30 = .ok (.iconst 1, 1) := by decide +kernel
theorem dX3_goesBefore_31 : decode cX3_goesBefore 31 = .ok (.goto 4, 3) := by decide +kernel
theorem dX3_goesBefore_34 : decode cX3_goesBefore 34 = .ok (.iconst 0, 1) := by decide +kernel
theorem dX3_goesBefore_35 : decode cX3_goesBefore 35 = .ok (.ireturn, 1) := by decide +kernel
theorem dX3_goesBefore_36 : decode cX3_goesBefore 36 = .ok (.aload_n 0, 1) := by decide +kernel
theorem dX3_goesBefore_37 : decode cX3_goesBefore 37 = .ok (.getfield 28, 3) := by decide +kernel
theorem dX3_goesBefore_40 : decode cX3_goesBefore 40 = .ok (.iload_n 1, 1) := by decide +kernel
theorem dX3_goesBefore_41 : decode cX3_goesBefore 41 = .ok (.laload, 1) := by decide +kernel
theorem dX3_goesBefore_42 : decode cX3_goesBefore 42 = .ok (.aload_n 0, 1) := by decide +kernel
theorem dX3_goesBefore_43 : decode cX3_goesBefore 43 = .ok (.getfield 28, 3) := by decide +kernel
theorem dX3_goesBefore_46 : decode cX3_goesBefore 46 = .ok (.iload_n 2, 1) := by decide +kernel
theorem dX3_goesBefore_47 : decode cX3_goesBefore 47 = .ok (.laload, 1) := by decide +kernel
theorem dX3_goesBefore_48 : decode cX3_goesBefore 48 = .ok (.lcmp, 1) := by decide +kernel
theorem dX3_goesBefore_49 : decode cX3_goesBefore 49 = .ok (.ifCond .ge 7, 3) := by decide +kernel
theorem dX3_goesBefore_52 : decode cX3_goesBefore 52 = .ok (.iconst 1, 1) := by decide +kernel
theorem dX3_goesBefore_53 : decode cX3_goesBefore 53 = .ok (.goto 4, 3) := by decide +kernel
theorem dX3_goesBefore_56 : decode cX3_goesBefore 56 = .ok (.iconst 0, 1) := by decide +kernel
theorem dX3_goesBefore_57 : decode cX3_goesBefore 57 = .ok (.ireturn, 1) := by decide +kernel
theorem dX3_work_0 : decode cX3_work 0 = .ok (.aload_n 0, 1) := by decide +kernel
theorem dX3_work_1 : decode cX3_work 1 = .ok (.getfield 31, 3) := by decide +kernel
theorem dX3_work_4 : decode cX3_work 4 = .ok (.iload_n 1, 1) := by decide +kernel
theorem dX3_work_5 : decode cX3_work 5 = .ok (.dup2, 1) := by decide +kernel
theorem dX3_work_6 : decode cX3_work 6 = .ok (.laload, 1) := by decide +kernel
theorem dX3_work_7 : decode cX3_work 7 = .ok (.lconst 1, 1) := by decide +kernel
theorem dX3_work_8 : decode cX3_work 8 = .ok (.lsub, 1) := by decide +kernel
theorem dX3_work_9 : decode cX3_work 9 = .ok (.lastore, 1) := by decide +kernel
theorem dX3_work_10 : decode cX3_work 10 = .ok (.aload_n 0, 1) := by decide +kernel
theorem dX3_work_11 : decode cX3_work 11 = .ok (.getfield 31, 3) := by decide +kernel
theorem dX3_work_14 : decode cX3_work 14 = .ok (.iload_n 1, 1) := by decide +kernel
theorem dX3_work_15 : decode cX3_work 15 = .ok (.laload, 1) := by decide +kernel
theorem dX3_work_16 : decode cX3_work 16 = .ok (.lconst 0, 1) := by decide +kernel
theorem dX3_work_17 : decode cX3_work 17 = .ok (.lcmp, 1) := by decide +kernel
theorem dX3_work_18 : decode cX3_work 18 = .ok (.ifCond .ne 71, 3) := by decide +kernel
theorem dX3_work_21 : decode cX3_work 21 = .ok (.aload_n 0, 1) := by decide +kernel
theorem dX3_work_22 : decode cX3_work 22 = .ok (.getfield 28, 3) := by decide +kernel
theorem dX3_work_25 : decode cX3_work 25 = .ok (.iload_n 1, 1) := by decide +kernel
theorem dX3_work_26 : decode cX3_work 26 = .ok (.laload, 1) := by decide +kernel
theorem dX3_work_27 : decode cX3_work 27 = .ok (.aload_n 0, 1) := by decide +kernel
theorem dX3_work_28 : decode cX3_work 28 = .ok (.getfield 91, 3) := by decide +kernel
theorem dX3_work_31 : decode cX3_work 31 = .ok (.i2l, 1) := by decide +kernel
theorem dX3_work_32 : decode cX3_work 32 = .ok (.lcmp, 1) := by decide +kernel
theorem dX3_work_33 : decode cX3_work 33 = .ok (.ifCond .ge 29, 3) := by decide +kernel
theorem dX3_work_36 : decode cX3_work 36 = .ok (.aload_n 0, 1) := by decide +kernel
theorem dX3_work_37 : decode cX3_work 37 = .ok (.getfield 9, 3) := by decide +kernel
theorem dX3_work_40 : decode cX3_work 40 = .ok (.iload_n 1, 1) := by decide +kernel
theorem dX3_work_41 : decode cX3_work 41 = .ok (.aload_n 0, 1) := by decide +kernel
theorem dX3_work_42 : decode cX3_work 42 = .ok (.getfield 9, 3) := by decide +kernel
theorem dX3_work_45 : decode cX3_work 45 = .ok (.iload_n 1, 1) := by decide +kernel
theorem dX3_work_46 : decode cX3_work 46 = .ok (.laload, 1) := by decide +kernel
theorem dX3_work_47 : decode cX3_work 47 = .ok (.iload_n 2, 1) := by decide +kernel
theorem dX3_work_48 : decode cX3_work 48 = .ok (.iconst 1, 1) := by decide +kernel
theorem dX3_work_49 : decode cX3_work 49 = .ok (.iadd, 1) := by decide +kernel
theorem dX3_work_50 : decode cX3_work 50 = .ok (.i2l, 1) := by decide +kernel
theorem dX3_work_51 : decode cX3_work 51 = .ok (.aload_n 0, 1) := by decide +kernel
theorem dX3_work_52 : decode cX3_work 52 = .ok (.getfield 28, 3) := by decide +kernel
theorem dX3_work_55 : decode cX3_work 55 = .ok (.iload_n 1, 1) := by decide +kernel
theorem dX3_work_56 : decode cX3_work 56 = .ok (.laload, 1) := by decide +kernel
theorem dX3_work_57 : decode cX3_work 57 = .ok (.lsub, 1) := by decide +kernel
theorem dX3_work_58 : decode cX3_work 58 = .ok (.invokestatic 96, 3) := by decide +kernel
theorem dX3_work_61 : decode cX3_work 61 = .ok (.lastore, 1) := by decide +kernel
theorem dX3_work_62 : decode cX3_work 62 = .ok (.aload_n 0, 1) := by decide +kernel
theorem dX3_work_63 : decode cX3_work 63 = .ok (.getfield 28, 3) := by decide +kernel
theorem dX3_work_66 : decode cX3_work 66 = .ok (.iload_n 1, 1) := by decide +kernel
theorem dX3_work_67 : decode cX3_work 67 = .ok (.dup2, 1) := by decide +kernel
theorem dX3_work_68 : decode cX3_work 68 = .ok (.laload, 1) := by decide +kernel
theorem dX3_work_69 : decode cX3_work 69 = .ok (.aload_n 0, 1) := by decide +kernel
theorem dX3_work_70 : decode cX3_work 70 = .ok (.getfield 22, 3) := by decide +kernel
theorem dX3_work_73 : decode cX3_work 73 = .ok (.iload_n 1, 1) := by decide +kernel
theorem dX3_work_74 : decode cX3_work 74 = .ok (.laload, 1) := by decide +kernel
theorem dX3_work_75 : decode cX3_work 75 = .ok (.ladd, 1) := by decide +kernel
theorem dX3_work_76 : decode cX3_work 76 = .ok (.lastore, 1) := by decide +kernel
theorem dX3_work_77 : decode cX3_work 77 = .ok (.aload_n 0, 1) := by decide +kernel
theorem dX3_work_78 : decode cX3_work 78 = .ok (.getfield 31, 3) := by decide +kernel
theorem dX3_work_81 : decode cX3_work 81 = .ok (.iload_n 1, 1) := by decide +kernel
theorem dX3_work_82 : decode cX3_work 82 = .ok (.aload_n 0, 1) := by decide +kernel
theorem dX3_work_83 : decode cX3_work 83 = .ok (.getfield 19, 3) := by decide +kernel
theorem dX3_work_86 : decode cX3_work 86 = .ok (.iload_n 1, 1) := by decide +kernel
theorem dX3_work_87 : decode cX3_work 87 = .ok (.laload, 1) := by decide +kernel
theorem dX3_work_88 : decode cX3_work 88 = .ok (.lastore, 1) := by decide +kernel
theorem dX3_work_89 : decode cX3_work 89 = .ok (.return_, 1) := by decide +kernel
theorem dX4_init_0 : decode cX4_init 0 = .ok (.aload_n 0, 1) := by decide +kernel
theorem dX4_init_1 : decode cX4_init 1 = .ok (.iload_n 1, 1) := by decide +kernel
theorem dX4_init_2 : decode cX4_init 2 = .ok (.lload_n 2, 1) := by decide +kernel
theorem dX4_init_3 : decode cX4_init 3 = .ok (.lload 4, 2) := by decide +kernel
theorem dX4_init_5 : decode cX4_init 5 = .ok (.invokespecial 3, 3) := by decide +kernel
theorem dX4_init_8 : decode cX4_init 8 = .ok (.aload_n 0, 1) := by decide +kernel
theorem dX4_init_9 : decode cX4_init 9 = .ok (.bipush 10, 2) := by decide +kernel
theorem dX4_init_11 : decode cX4_init 11 = .ok (.newarray .int, 2) := by decide +kernel
theorem dX4_init_13 : decode cX4_init 13 = .ok (.putfield 9, 3) := by decide +kernel
theorem dX4_init_16 : decode cX4_init 16 = .ok (.aload_n 0, 1) := by decide +kernel
theorem dX4_init_17 : decode cX4_init 17 = .ok (.bipush 10, 2) := by decide +kernel
theorem dX4_init_19 : decode cX4_init 19 = .ok (.newarray .long, 2) := by decide +kernel
theorem dX4_init_21 : decode cX4_init 21 = .ok (.putfield 15, 3) := by decide +kernel
theorem dX4_init_24 : decode cX4_init 24 = .ok (.aload_n 0, 1) := by decide +kernel
theorem dX4_init_25 : decode cX4_init 25 = .ok (.new 19, 3) := by decide +kernel
theorem dX4_init_28 : decode cX4_init 28 = .ok (.dup, 1) := by decide +kernel
theorem dX4_init_29 : decode cX4_init 29 = .ok (.invokespecial 21, 3) := by decide +kernel
theorem dX4_init_32 : decode cX4_init 32 = .ok (.putfield 24, 3) := by decide +kernel
theorem dX4_init_35 : decode cX4_init 35 = .ok (.aload_n 0, 1) := by decide +kernel
theorem dX4_init_36 : decode cX4_init 36 = .ok (.ldc2_w 28, 3) := by decide +kernel
theorem dX4_init_39 : decode cX4_init 39 = .ok (.putfield 30, 3) := by decide +kernel
theorem dX4_init_42 : decode cX4_init 42 = .ok (.aload_n 0, 1) := by decide +kernel
theorem dX4_init_43 : decode cX4_init 43 = .ok (.iload 6, 2) := by decide +kernel
theorem dX4_init_45 : decode cX4_init 45 = .ok (.putfield 34, 3) := by decide +kernel
theorem dX4_init_48 : decode cX4_init 48 = .ok (.return_, 1) := by decide +kernel
theorem dX4_addSection_0 : decode cX4_addSection 0 = .ok (.aload_n 0, 1) := by decide +kernel
theorem dX4_addSection_1 : decode cX4_addSection 1 = .ok (.getfield 38, 3) := by decide +kernel
theorem dX4_addSection_4 : decode cX4_addSection 4 = .ok (.bipush 10, 2) := by decide +kernel
theorem dX4_addSection_6 : decode cX4_addSection 6 = .ok (.if_icmp .ge 33, 3) := by decide +kernel
theorem dX4_addSection_9 : decode cX4_addSection 9 = .ok (.aload_n 0, 1) := by decide +kernel
theorem dX4_addSection_10 : decode cX4_addSection 10 = .ok (.getfield 9, 3) := by decide +kernel
theorem dX4_addSection_13 : decode cX4_addSection 13 = .ok (.aload_n 0, 1) := by decide +kernel
theorem dX4_addSection_14 : decode cX4_addSection 14 = .ok (.getfield 38, 3) := by decide +kernel
theorem dX4_addSection_17 : decode cX4_addSection 17 = .ok (.iload_n 1, 1) := by decide +kernel
theorem dX4_addSection_18 : decode cX4_addSection 18 = .ok (.iastore, 1) := by decide +kernel
theorem dX4_addSection_19 : decode cX4_addSection 19 = .ok (.aload_n 0, 1) := by decide +kernel
theorem dX4_addSection_20 : decode cX4_addSection 20 = .ok (.getfield 15, 3) := by decide +kernel
theorem dX4_addSection_23 : decode cX4_addSection 23 = .ok (.aload_n 0, 1) := by decide +kernel
theorem dX4_addSection_24 : decode cX4_addSection 24 = .ok (.getfield 38, 3) := by decide +kernel
theorem dX4_addSection_27 : decode cX4_addSection 27 = .ok (.lload_n 2, 1) := by decide +kernel
theorem dX4_addSection_28 : decode cX4_addSection 28 = .ok (.lastore, 1) := by decide +kernel
theorem dX4_addSection_29 : decode cX4_addSection 29 = .ok (.aload_n 0, 1) := by decide +kernel
theorem dX4_addSection_30 : decode cX4_addSection 30 = .ok (.dup, 1) := by decide +kernel
theorem dX4_addSection_31 : decode cX4_addSection 31 = .ok (.getfield 38, 3) := by decide +kernel
theorem dX4_addSection_34 : decode cX4_addSection 34 = .ok (.iconst 1, 1) := by decide +kernel
theorem dX4_addSection_35 : decode cX4_addSection 35 = .ok (.iadd, 1) := by decide +kernel
theorem dX4_addSection_36 : decode cX4_addSection 36 = .ok (.putfield 38, 3) := by decide +kernel
theorem dX4_addSection_39 : decode cX4_addSection 39 = .ok (.return_, 1) := by decide +kernel
theorem dX4_isAbove_0 : decode cX4_isAbove 0 = .ok (.aload_n 0, 1) := by decide +kernel
theorem dX4_isAbove_1 : decode cX4_isAbove 1 = .ok (.aload_n 1, 1) := by decide +kernel
theorem dX4_isAbove_2 : decode cX4_isAbove 2 = .ok (.if_acmp .eq 18, 3) := by decide +kernel
theorem dX4_isAbove_5 : decode cX4_isAbove 5 = .ok (.aload_n 0, 1) := by decide +kernel
theorem dX4_isAbove_6 : decode cX4_isAbove 6 = .ok (.getfield 34, 3) := by decide +kernel
theorem dX4_isAbove_9 : decode cX4_isAbove 9 = .ok (.aload_n 1, 1) := by decide +kernel
theorem dX4_isAbove_10 : decode cX4_isAbove 10 = .ok (.getfield 34, 3) := by decide +kernel
theorem dX4_isAbove_13 : decode cX4_isAbove 13 = .ok (.if_icmp .lt 7, 3) := by decide +kernel
theorem dX4_isAbove_16 : decode cX4_isAbove 16 = .ok (.iconst 1, 1) := by decide +kernel
theorem dX4_isAbove_17 : decode cX4_isAbove 17 = .ok (.goto 4, 3) := by decide +kernel
theorem dX4_isAbove_20 : decode cX4_isAbove 20 = .ok (.iconst 0, 1) := by decide +kernel
theorem dX4_isAbove_21 : decode cX4_isAbove 21 = .ok (.ireturn, 1) := by decide +kernel
theorem dX4_isPlain_0 : decode cX4_isPlain 0 = .ok (.aload_n 0, 1) := by decide +kernel
theorem dX4_isPlain_1 : decode cX4_isPlain 1 = .ok (.getfield 41, 3) := by decide +kernel
theorem dX4_isPlain_4 : decode cX4_isPlain 4 = .ok (.lconst 0, 1) := by decide +kernel
theorem dX4_isPlain_5 : decode cX4_isPlain 5 = .ok (.lcmp, 1) := by decide +kernel
theorem dX4_isPlain_6 : decode cX4_isPlain 6 = .ok (.ifCond .ne 31, 3) := by decide +kernel
theorem dX4_isPlain_9 : decode cX4_isPlain 9 = .ok (.aload_n 0, 1) := by decide +kernel
theorem dX4_isPlain_10 : decode cX4_isPlain 10 = .ok (.getfield 44, 3) := by decide +kernel
theorem dX4_isPlain_13 : decode cX4_isPlain 13 = .ok (.iconst 1, 1) := by decide +kernel
theorem dX4_isPlain_14 : decode cX4_isPlain 14 = .ok (.if_icmp .ne 23, 3) := by decide +kernel
theorem dX4_isPlain_17 : decode cX4_isPlain 17 = .ok (.aload_n 0, 1) := by decide +kernel
theorem dX4_isPlain_18 : decode cX4_isPlain 18 = .ok (.getfield 38, 3) := by decide +kernel
theorem dX4_isPlain_21 : decode cX4_isPlain 21 = .ok (.ifCond .ne 16, 3) := by decide +kernel
theorem dX4_isPlain_24 : decode cX4_isPlain 24 = .ok (.aload_n 0, 1) := by decide +kernel
theorem dX4_isPlain_25 : decode cX4_isPlain 25 = .ok (.getfield 47, 3) := by decide +kernel
theorem dX4_isPlain_28 : decode cX4_isPlain 28 = .ok (.lconst 0, 1) := by decide +kernel
theorem dX4_isPlain_29 : decode cX4_isPlain 29 = .ok (.lcmp, 1) := by decide +kernel
theorem dX4_isPlain_30 : decode cX4_isPlain 30 = .ok (.ifCond .ne 7, 3) := by decide +kernel
theorem dX4_isPlain_33 : decode cX4_isPlain 33 = .ok (.iconst 1, 1) := by decide +kernel
theorem dX4_isPlain_34 : decode cX4_isPlain 34 = .ok (.goto 4, 3) := by decide +kernel
theorem dX4_isPlain_37 : decode cX4_isPlain 37 = .ok (.iconst 0, 1) := by decide +kernel
theorem dX4_isPlain_38 : decode cX4_isPlain 38 = .ok (.ireturn, 1) := by decide +kernel
theorem dX4_tellsPhase_0 : decode cX4_tellsPhase 0 = .ok (.aload_n 0, 1) := by decide +kernel
theorem dX4_tellsPhase_1 : decode cX4_tellsPhase 1 = .ok (.getfield 30, 3) := by decide +kernel
theorem dX4_tellsPhase_4 : decode cX4_tellsPhase 4 = .ok (.ldc2_w 28, 3) := by decide +kernel
theorem dX4_tellsPhase_7 : decode cX4_tellsPhase 7 = .ok (.lcmp, 1) := by decide +kernel
theorem dX4_tellsPhase_8 : decode cX4_tellsPhase 8 = .ok (.ifCond .eq 7, 3) := by decide +kernel
theorem dX4_tellsPhase_11 : decode cX4_tellsPhase 11 = .ok (.iconst 1, 1) := by decide +kernel
theorem dX4_tellsPhase_12 : decode cX4_tellsPhase 12 = .ok (.goto 4, 3) := by decide +kernel
theorem dX4_tellsPhase_15 : decode cX4_tellsPhase 15 = .ok (.iconst 0, 1) := by decide +kernel
theorem dX4_tellsPhase_16 : decode cX4_tellsPhase 16 = .ok (.ireturn, 1) := by decide +kernel
theorem dX5_init_0 : decode cX5_init 0 = .ok (.aload_n 0, 1) := by decide +kernel
theorem dX5_init_1 : decode cX5_init 1 = .ok (.invokespecial 1, 3) := by decide +kernel
theorem dX5_init_4 : decode cX5_init 4 = .ok (.aload_n 0, 1) := by decide +kernel
theorem dX5_init_5 : decode cX5_init 5 = .ok (.new 7, 3) := by decide +kernel
theorem dX5_init_8 : decode cX5_init 8 = .ok (.dup, 1) := by decide +kernel
theorem dX5_init_9 : decode cX5_init 9 = .ok (.invokespecial 9, 3) := by decide +kernel
theorem dX5_init_12 : decode cX5_init 12 = .ok (.putfield 10, 3) := by decide +kernel
theorem dX5_init_15 : decode cX5_init 15 = .ok (.aload_n 0, 1) := by decide +kernel
theorem dX5_init_16 : decode cX5_init 16 = .ok (.new 16, 3) := by decide +kernel
theorem dX5_init_19 : decode cX5_init 19 = .ok (.dup, 1) := by decide +kernel
theorem dX5_init_20 : decode cX5_init 20 = .ok (.invokespecial 18, 3) := by decide +kernel
theorem dX5_init_23 : decode cX5_init 23 = .ok (.putfield 19, 3) := by decide +kernel
theorem dX5_init_26 : decode cX5_init 26 = .ok (.aload_n 0, 1) := by decide +kernel
theorem dX5_init_27 : decode cX5_init 27 = .ok (.new 23, 3) := by decide +kernel
theorem dX5_init_30 : decode cX5_init 30 = .ok (.dup, 1) := by decide +kernel
theorem dX5_init_31 : decode cX5_init 31 = .ok (.invokespecial 25, 3) := by decide +kernel
theorem dX5_init_34 : decode cX5_init 34 = .ok (.putfield 26, 3) := by decide +kernel
theorem dX5_init_37 : decode cX5_init 37 = .ok (.return_, 1) := by decide +kernel
theorem dX5_task_0 : decode cX5_task 0 = .ok (.lload_n 1, 1) := by decide +kernel
theorem dX5_task_1 : decode cX5_task 1 = .ok (.invokestatic 30, 3) := by decide +kernel
theorem dX5_task_4 : decode cX5_task 4 = .ok (.ifCond .eq 16, 3) := by decide +kernel
theorem dX5_task_7 : decode cX5_task 7 = .ok (.iload 5, 2) := by decide +kernel
theorem dX5_task_9 : decode cX5_task 9 = .ok (.ifCond .lt 11, 3) := by decide +kernel
theorem dX5_task_12 : decode cX5_task 12 = .ok (.iload 5, 2) := by decide +kernel
theorem dX5_task_14 : decode cX5_task 14 = .ok (.sipush 255, 3) := by decide +kernel
theorem dX5_task_17 : decode cX5_task 17 = .ok (.if_icmp .le 6, 3) := by decide +kernel
theorem dX5_task_20 : decode cX5_task 20 = .ok (.bipush (-2), 2) := by decide +kernel
theorem dX5_task_22 : decode cX5_task 22 = .ok (.ireturn, 1) := by decide +kernel
theorem dX5_task_23 : decode cX5_task 23 = .ok (.lload_n 3, 1) := by decide +kernel
theorem dX5_task_24 : decode cX5_task 24 = .ok (.lconst 0, 1) := by decide +kernel
theorem dX5_task_25 : decode cX5_task 25 = .ok (.lcmp, 1) := by decide +kernel
theorem dX5_task_26 : decode cX5_task 26 = .ok (.ifCond .lt 11, 3) := by decide +kernel
theorem dX5_task_29 : decode cX5_task 29 = .ok (.lload_n 3, 1) := by decide +kernel
theorem dX5_task_30 : decode cX5_task 30 = .ok (.ldc2_w 34, 3) := by decide +kernel
theorem dX5_task_33 : decode cX5_task 33 = .ok (.lcmp, 1) := by decide +kernel
theorem dX5_task_34 : decode cX5_task 34 = .ok (.ifCond .le 6, 3) := by decide +kernel
theorem dX5_task_37 : decode cX5_task 37 = .ok (.bipush (-2), 2) := by decide +kernel
theorem dX5_task_39 : decode cX5_task 39 = .ok (.ireturn, 1) := by decide +kernel
theorem dX5_task_40 : decode cX5_task 40 = .ok (.aload_n 0, 1) := by decide +kernel
theorem dX5_task_41 : decode cX5_task 41 = .ok (.getfield 10, 3) := by decide +kernel
theorem dX5_task_44 : decode cX5_task 44 = .ok (.getfield 36, 3) := by decide +kernel
theorem dX5_task_47 : decode cX5_task 47 = .ok (.invokevirtual 40, 3) := by decide +kernel
theorem dX5_task_50 : decode cX5_task 50 = .ok (.iconst 1, 1) := by decide +kernel
theorem dX5_task_51 : decode cX5_task 51 = .ok (.iadd, 1) := by decide +kernel
theorem dX5_task_52 : decode cX5_task 52 = .ok (.istore 6, 2) := by decide +kernel
theorem dX5_task_54 : decode cX5_task 54 = .ok (.iload 6, 2) := by decide +kernel
theorem dX5_task_56 : decode cX5_task 56 = .ok (.bipush 16, 2) := by decide +kernel
theorem dX5_task_58 : decode cX5_task 58 = .ok (.if_icmp .le 6, 3) := by decide +kernel
theorem dX5_task_61 : decode cX5_task 61 = .ok (.bipush (-4), 2) := by decide +kernel
theorem dX5_task_63 : decode cX5_task 63 = .ok (.ireturn, 1) := by decide +kernel
theorem dX5_task_64 : decode cX5_task 64 = .ok (.lload_n 3, 1) := by decide +kernel
theorem dX5_task_65 : decode cX5_task 65 = .ok (.lconst 0, 1) := by decide +kernel
theorem dX5_task_66 : decode cX5_task 66 = .ok (.lcmp, 1) := by decide +kernel
theorem dX5_task_67 : decode cX5_task 67 = .ok (.ifCond .ne 13, 3) := by decide +kernel
theorem dX5_task_70 : decode cX5_task 70 = .ok (.new 46, 3) := by decide +kernel
theorem dX5_task_73 : decode cX5_task 73 = .ok (.dup, 1) := by decide +kernel
theorem dX5_task_74 : decode cX5_task 74 = .ok (.ldc 48, 2) := by decide +kernel
theorem dX5_task_76 : decode cX5_task 76 = .ok (.invokespecial 50, 3) := by decide +kernel
theorem dX5_task_79 : decode cX5_task 79 = .ok (.athrow, 1) := by decide +kernel
theorem dX5_task_80 : decode cX5_task 80 = .ok (.aload_n 0, 1) := by decide +kernel
theorem dX5_task_81 : decode cX5_task 81 = .ok (.getfield 10, 3) := by decide +kernel
theorem dX5_task_84 : decode cX5_task 84 = .ok (.getfield 36, 3) := by decide +kernel
theorem dX5_task_87 : decode cX5_task 87 = .ok (.new 53, 3) := by decide +kernel
theorem dX5_task_90 : decode cX5_task 90 = .ok (.dup, 1) := by decide +kernel
theorem dX5_task_91 : decode cX5_task 91 = .ok (.iload 6, 2) := by decide +kernel
theorem dX5_task_93 : decode cX5_task 93 = .ok (.lload_n 1, 1) := by decide +kernel
theorem dX5_task_94 : decode cX5_task 94 = .ok (.lload_n 3, 1) := by decide +kernel
theorem dX5_task_95 : decode cX5_task 95 = .ok (.iload 5, 2) := by decide +kernel
theorem dX5_task_97 : decode cX5_task 97 = .ok (.invokespecial 55, 3) := by decide +kernel
theorem dX5_task_100 : decode cX5_task 100 = .ok (.invokevirtual 58, 3) := by decide +kernel
theorem dX5_task_103 : decode cX5_task 103 = .ok (.pop, 1) := by decide +kernel
theorem dX5_task_104 : decode cX5_task 104 = .ok (.aload_n 0, 1) := by decide +kernel
theorem dX5_task_105 : decode cX5_task 105 = .ok (.invokevirtual 62, 3) := by decide +kernel
theorem dX5_task_108 : decode cX5_task 108 = .ok (.iload 6, 2) := by decide +kernel
theorem dX5_task_110 : decode cX5_task 110 = .ok (.ireturn, 1) := by decide +kernel
theorem dX5_jitter_0 : decode cX5_jitter 0 = .ok (.aload_n 0, 1) := by decide +kernel
theorem dX5_jitter_1 : decode cX5_jitter 1 = .ok (.getfield 10, 3) := by decide +kernel
theorem dX5_jitter_4 : decode cX5_jitter 4 = .ok (.iload_n 1, 1) := by decide +kernel
theorem dX5_jitter_5 : decode cX5_jitter 5 = .ok (.invokevirtual 65, 3) := by decide +kernel
theorem dX5_jitter_8 : decode cX5_jitter 8 = .ok (.astore 4, 2) := by decide +kernel
theorem dX5_jitter_10 : decode cX5_jitter 10 = .ok (.aload 4, 2) := by decide +kernel
theorem dX5_jitter_12 : decode cX5_jitter 12 = .ok (.ifnonnull 5, 3) := by decide +kernel
theorem dX5_jitter_15 : decode cX5_jitter 15 = .ok (.iconst (-1), 1) := by decide +kernel
theorem dX5_jitter_16 : decode cX5_jitter 16 = .ok (.ireturn, 1) := by decide +kernel
theorem dX5_jitter_17 : decode cX5_jitter 17 = .ok (.lload_n 2, 1) := by decide +kernel
theorem dX5_jitter_18 : decode cX5_jitter 18 = .ok (.lconst 0, 1) := by decide +kernel
theorem dX5_jitter_19 : decode cX5_jitter 19 = .ok (.lcmp, 1) := by decide +kernel
theorem dX5_jitter_20 : decode cX5_jitter 20 = .ok (.ifCond .lt 11, 3) := by decide +kernel
theorem dX5_jitter_23 : decode cX5_jitter 23 = .ok (.lload_n 2, 1) := by decide +kernel
theorem dX5_jitter_24 : decode cX5_jitter 24 = .ok (.ldc2_w 34, 3) := by decide +kernel
theorem dX5_jitter_27 : decode cX5_jitter 27 = .ok (.lcmp, 1) := by decide +kernel
theorem dX5_jitter_28 : decode cX5_jitter 28 = .ok (.ifCond .le 6, 3) := by decide +kernel
theorem dX5_jitter_31 : decode cX5_jitter 31 = .ok (.bipush (-2), 2) := by decide +kernel
theorem dX5_jitter_33 : decode cX5_jitter 33 = .ok (.ireturn, 1) := by decide +kernel
theorem dX5_jitter_34 : decode cX5_jitter 34 = .ok (.aload 4, 2) := by decide +kernel
theorem dX5_jitter_36 : decode cX5_jitter 36 = .ok (.lload_n 2, 1) := by decide +kernel
theorem dX5_jitter_37 : decode cX5_jitter 37 = .ok (.putfield 69, 3) := by decide +kernel
theorem dX5_jitter_40 : decode cX5_jitter 40 = .ok (.aload_n 0, 1) := by decide +kernel
theorem dX5_jitter_41 : decode cX5_jitter 41 = .ok (.invokevirtual 62, 3) := by decide +kernel
theorem dX5_jitter_44 : decode cX5_jitter 44 = .ok (.iconst 1, 1) := by decide +kernel
theorem dX5_jitter_45 : decode cX5_jitter 45 = .ok (.ireturn, 1) := by decide +kernel
theorem dX5_burst_0 : decode cX5_burst 0 = .ok (.aload_n 0, 1) := by decide +kernel
theorem dX5_burst_1 : decode cX5_burst 1 = .ok (.getfield 10, 3) := by decide +kernel
theorem dX5_burst_4 : decode cX5_burst 4 = .ok (.iload_n 1, 1) := by decide +kernel
theorem dX5_burst_5 : decode cX5_burst 5 = .ok (.invokevirtual 65, 3) := by decide +kernel
theorem dX5_burst_8 : decode cX5_burst 8 = .ok (.astore 5, 2) := by decide +kernel
theorem dX5_burst_10 : decode cX5_burst 10 = .ok (.aload 5, 2) := by decide +kernel
theorem dX5_burst_12 : decode cX5_burst 12 = .ok (.ifnonnull 5, 3) := by decide +kernel
theorem dX5_burst_15 : decode cX5_burst 15 = .ok (.iconst (-1), 1) := by decide +kernel
theorem dX5_burst_16 : decode cX5_burst 16 = .ok (.ireturn, 1) := by decide +kernel
theorem dX5_burst_17 : decode cX5_burst 17 = .ok (.iload_n 2, 1) := by decide +kernel
theorem dX5_burst_18 : decode cX5_burst 18 = .ok (.iconst 1, 1) := by decide +kernel
theorem dX5_burst_19 : decode cX5_burst 19 = .ok (.if_icmp .lt 16, 3) := by decide +kernel
theorem dX5_burst_22 : decode cX5_burst 22 = .ok (.iload_n 2, 1) := by decide +kernel
theorem dX5_burst_23 : decode cX5_burst 23 = .ok (.bipush 20, 2) := by decide +kernel
theorem dX5_burst_25 : decode cX5_burst 25 = .ok (.if_icmp .gt 10, 3) := by decide +kernel
theorem dX5_burst_28 : decode cX5_burst 28 = .ok (.lload_n 3, 1) := by decide +kernel
theorem dX5_burst_29 : decode cX5_burst 29 = .ok (.invokestatic 73, 3) := by decide +kernel
theorem dX5_burst_32 : decode cX5_burst 32 = .ok (.ifCond .ne 6, 3) := by decide +kernel
theorem dX5_burst_35 : decode cX5_burst 35 = .ok (.bipush (-2), 2) := by decide +kernel
theorem dX5_burst_37 : decode cX5_burst 37 = .ok (.ireturn, 1) := by decide +kernel
theorem dX5_burst_38 : decode cX5_burst 38 = .ok (.aload 5, 2) := by decide +kernel
theorem dX5_burst_40 : decode cX5_burst 40 = .ok (.iload_n 2, 1) := by decide +kernel
theorem dX5_burst_41 : decode cX5_burst 41 = .ok (.putfield 76, 3) := by decide +kernel
theorem dX5_burst_44 : decode cX5_burst 44 = .ok (.aload 5, 2) := by decide +kernel
theorem dX5_burst_46 : decode cX5_burst 46 = .ok (.lload_n 3, 1) := by decide +kernel
theorem dX5_burst_47 : decode cX5_burst 47 = .ok (.putfield 80, 3) := by decide +kernel
theorem dX5_burst_50 : decode cX5_burst 50 = .ok (.aload_n 0, 1) := by decide +kernel
theorem dX5_burst_51 : decode cX5_burst 51 = .ok (.invokevirtual 62, 3) := by decide +kernel
theorem dX5_burst_54 : decode cX5_burst 54 = .ok (.iconst 1, 1) := by decide +kernel
theorem dX5_burst_55 : decode cX5_burst 55 = .ok (.ireturn, 1) := by decide +kernel
theorem dX5_section_0 : decode cX5_section 0 = .ok (.aload_n 0, 1) := by decide +kernel
theorem dX5_section_1 : decode cX5_section 1 = .ok (.getfield 10, 3) := by decide +kernel
theorem dX5_section_4 : decode cX5_section 4 = .ok (.iload_n 1, 1) := by decide +kernel
theorem dX5_section_5 : decode cX5_section 5 = .ok (.invokevirtual 65, 3) := by decide +kernel
theorem dX5_section_8 : decode cX5_section 8 = .ok (.astore 5, 2) := by decide +kernel
theorem dX5_section_10 : decode cX5_section 10 = .ok (.aload 5, 2) := by decide +kernel
theorem dX5_section_12 : decode cX5_section 12 = .ok (.ifnonnull 5, 3) := by decide +kernel
theorem dX5_section_15 : decode cX5_section 15 = .ok (.iconst (-1), 1) := by decide +kernel
theorem dX5_section_16 : decode cX5_section 16 = .ok (.ireturn, 1) := by decide +kernel
theorem dX5_section_17 : decode cX5_section 17 = .ok (.iload_n 2, 1) := by decide +kernel
theorem dX5_section_18 : decode cX5_section 18 = .ok (.iconst 1, 1) := by decide +kernel
theorem dX5_section_19 : decode cX5_section 19 = .ok (.if_icmp .lt 16, 3) := by decide +kernel
theorem dX5_section_22 : decode cX5_section 22 = .ok (.iload_n 2, 1) := by decide +kernel
theorem dX5_section_23 : decode cX5_section 23 = .ok (.bipush 32, 2) := by decide +kernel
theorem dX5_section_25 : decode cX5_section 25 = .ok (.if_icmp .gt 10, 3) := by decide +kernel
theorem dX5_section_28 : decode cX5_section 28 = .ok (.lload_n 3, 1) := by decide +kernel
theorem dX5_section_29 : decode cX5_section 29 = .ok (.invokestatic 30, 3) := by decide +kernel
theorem dX5_section_32 : decode cX5_section 32 = .ok (.ifCond .ne 6, 3) := by decide +kernel
theorem dX5_section_35 : decode cX5_section 35 = .ok (.bipush (-2), 2) := by decide +kernel
theorem dX5_section_37 : decode cX5_section 37 = .ok (.ireturn, 1) := by decide +kernel
theorem dX5_section_38 : decode cX5_section 38 = .ok (.aload 5, 2) := by decide +kernel
theorem dX5_section_40 : decode cX5_section 40 = .ok (.getfield 83, 3) := by decide +kernel
theorem dX5_section_43 : decode cX5_section 43 = .ok (.bipush 10, 2) := by decide +kernel
theorem dX5_section_45 : decode cX5_section 45 = .ok (.if_icmp .lt 6, 3) := by decide +kernel
theorem dX5_section_48 : decode cX5_section 48 = .ok (.bipush (-4), 2) := by decide +kernel
theorem dX5_section_50 : decode cX5_section 50 = .ok (.ireturn, 1) := by decide +kernel
theorem dX5_section_51 : decode cX5_section 51 = .ok (.aload 5, 2) := by decide +kernel
theorem dX5_section_53 : decode cX5_section 53 = .ok (.iload_n 2, 1) := by decide +kernel
theorem dX5_section_54 : decode cX5_section 54 = .ok (.lload_n 3, 1) := by decide +kernel
theorem dX5_section_55 : decode cX5_section 55 = .ok (.invokevirtual 86, 3) := by decide +kernel
theorem dX5_section_58 : decode cX5_section 58 = .ok (.aload_n 0, 1) := by decide +kernel
theorem dX5_section_59 : decode cX5_section 59 = .ok (.getfield 10, 3) := by decide +kernel
theorem dX5_section_62 : decode cX5_section 62 = .ok (.iload_n 2, 1) := by decide +kernel
theorem dX5_section_63 : decode cX5_section 63 = .ok (.aload 5, 2) := by decide +kernel
theorem dX5_section_65 : decode cX5_section 65 = .ok (.getfield 90, 3) := by decide +kernel
theorem dX5_section_68 : decode cX5_section 68 = .ok (.invokevirtual 93, 3) := by decide +kernel
theorem dX5_section_71 : decode cX5_section 71 = .ok (.aload_n 0, 1) := by decide +kernel
theorem dX5_section_72 : decode cX5_section 72 = .ok (.invokevirtual 62, 3) := by decide +kernel
theorem dX5_section_75 : decode cX5_section 75 = .ok (.aload 5, 2) := by decide +kernel
theorem dX5_section_77 : decode cX5_section 77 = .ok (.getfield 83, 3) := by decide +kernel
theorem dX5_section_80 : decode cX5_section 80 = .ok (.ireturn, 1) := by decide +kernel
theorem dX5_offset_0 : decode cX5_offset 0 = .ok (.aload_n 0, 1) := by decide +kernel
theorem dX5_offset_1 : decode cX5_offset 1 = .ok (.getfield 10, 3) := by decide +kernel
theorem dX5_offset_4 : decode cX5_offset 4 = .ok (.iload_n 1, 1) := by decide +kernel
theorem dX5_offset_5 : decode cX5_offset 5 = .ok (.invokevirtual 65, 3) := by decide +kernel
theorem dX5_offset_8 : decode cX5_offset 8 = .ok (.astore 4, 2) := by decide +kernel
theorem dX5_offset_10 : decode cX5_offset 10 = .ok (.aload 4, 2) := by decide +kernel
theorem dX5_offset_12 : decode cX5_offset 12 = .ok (.ifnonnull 5, 3) := by decide +kernel
theorem dX5_offset_15 : decode cX5_offset 15 = .ok (.iconst (-1), 1) := by decide +kernel
theorem dX5_offset_16 : decode cX5_offset 16 = .ok (.ireturn, 1) := by decide +kernel
theorem dX5_offset_17 : decode cX5_offset 17 = .ok (.lload_n 2, 1) := by decide +kernel
theorem dX5_offset_18 : decode cX5_offset 18 = .ok (.ldc2_w 97, 3) := by decide +kernel
theorem dX5_offset_21 : decode cX5_offset 21 = .ok (.lcmp, 1) := by decide +kernel
theorem dX5_offset_22 : decode cX5_offset 22 = .ok (.ifCond .lt 13, 3) := by decide +kernel
theorem dX5_offset_25 : decode cX5_offset 25 = .ok (.lload_n 2, 1) := by decide +kernel
theorem dX5_offset_26 : decode cX5_offset 26 = .ok (.aload 4, 2) := by decide +kernel
theorem dX5_offset_28 : decode cX5_offset 28 = .ok (.getfield 99, 3) := by decide +kernel
theorem dX5_offset_31 : decode cX5_offset 31 = .ok (.lcmp, 1) := by decide +kernel
theorem dX5_offset_32 : decode cX5_offset 32 = .ok (.ifCond .lt 6, 3) := by decide +kernel
theorem dX5_offset_35 : decode cX5_offset 35 = .ok (.bipush (-2), 2) := by decide +kernel
theorem dX5_offset_37 : decode cX5_offset 37 = .ok (.ireturn, 1) := by decide +kernel
theorem dX5_offset_38 : decode cX5_offset 38 = .ok (.aload 4, 2) := by decide +kernel
theorem dX5_offset_40 : decode cX5_offset 40 = .ok (.lload_n 2, 1) := by decide +kernel
theorem dX5_offset_41 : decode cX5_offset 41 = .ok (.putfield 102, 3) := by decide +kernel
theorem dX5_offset_44 : decode cX5_offset 44 = .ok (.aload_n 0, 1) := by decide +kernel
theorem dX5_offset_45 : decode cX5_offset 45 = .ok (.invokevirtual 62, 3) := by decide +kernel
theorem dX5_offset_48 : decode cX5_offset 48 = .ok (.iconst 1, 1) := by decide +kernel
theorem dX5_offset_49 : decode cX5_offset 49 = .ok (.ireturn, 1) := by decide +kernel
theorem dX5_answer_0 : decode cX5_answer 0 = .ok (.aload_n 0, 1) := by decide +kernel
theorem dX5_answer_1 : decode cX5_answer 1 = .ok (.getfield 10, 3) := by decide +kernel
theorem dX5_answer_4 : decode cX5_answer 4 = .ok (.iload_n 1, 1) := by decide +kernel
theorem dX5_answer_5 : decode cX5_answer 5 = .ok (.invokevirtual 65, 3) := by decide +kernel
theorem dX5_answer_8 : decode cX5_answer 8 = .ok (.astore_n 2, 1) := by decide +kernel
theorem dX5_answer_9 : decode cX5_answer 9 = .ok (.aload_n 2, 1) := by decide +kernel
theorem dX5_answer_10 : decode cX5_answer 10 = .ok (.ifnonnull 9, 3) := by decide +kernel
theorem dX5_answer_13 : decode cX5_answer 13 = .ok (.ldc2_w 105, 3) := by decide +kernel
theorem dX5_answer_16 : decode cX5_answer 16 = .ok (.goto 11, 3) := by decide +kernel
theorem dX5_answer_19 : decode cX5_answer 19 = .ok (.aload_n 0, 1) := by decide +kernel
theorem dX5_answer_20 : decode cX5_answer 20 = .ok (.aload_n 2, 1) := by decide +kernel
theorem dX5_answer_21 : decode cX5_answer 21 = .ok (.invokevirtual 107, 3) := by decide +kernel
theorem dX5_answer_24 : decode cX5_answer 24 = .ok (.getfield 111, 3) := by decide +kernel
theorem dX5_answer_27 : decode cX5_answer 27 = .ok (.lreturn, 1) := by decide +kernel
theorem dX5_reason_0 : decode cX5_reason 0 = .ok (.aload_n 0, 1) := by decide +kernel
theorem dX5_reason_1 : decode cX5_reason 1 = .ok (.getfield 10, 3) := by decide +kernel
theorem dX5_reason_4 : decode cX5_reason 4 = .ok (.iload_n 1, 1) := by decide +kernel
theorem dX5_reason_5 : decode cX5_reason 5 = .ok (.invokevirtual 65, 3) := by decide +kernel
theorem dX5_reason_8 : decode cX5_reason 8 = .ok (.astore 4, 2) := by decide +kernel
theorem dX5_reason_10 : decode cX5_reason 10 = .ok (.aload 4, 2) := by decide +kernel
theorem dX5_reason_12 : decode cX5_reason 12 = .ok (.ifnull 7, 3) := by decide +kernel
theorem dX5_reason_15 : decode cX5_reason 15 = .ok (.iload_n 2, 1) := by decide +kernel
theorem dX5_reason_16 : decode cX5_reason 16 = .ok (.ifCond .ge 5, 3) := by decide +kernel
theorem dX5_reason_19 : decode cX5_reason 19 = .ok (.iconst (-1), 1) := by decide +kernel
theorem dX5_reason_20 : decode cX5_reason 20 = .ok (.ireturn, 1) := by decide +kernel
theorem dX5_reason_21 : decode cX5_reason 21 = .ok (.aload_n 0, 1) := by decide +kernel
theorem dX5_reason_22 : decode cX5_reason 22 = .ok (.aload 4, 2) := by decide +kernel
theorem dX5_reason_24 : decode cX5_reason 24 = .ok (.invokevirtual 107, 3) := by decide +kernel
theorem dX5_reason_27 : decode cX5_reason 27 = .ok (.astore 5, 2) := by decide +kernel
theorem dX5_reason_29 : decode cX5_reason 29 = .ok (.aload 5, 2) := by decide +kernel
theorem dX5_reason_31 : decode cX5_reason 31 = .ok (.getfield 111, 3) := by decide +kernel
theorem dX5_reason_34 : decode cX5_reason 34 = .ok (.ldc2_w 97, 3) := by decide +kernel
theorem dX5_reason_37 : decode cX5_reason 37 = .ok (.lcmp, 1) := by decide +kernel
theorem dX5_reason_38 : decode cX5_reason 38 = .ok (.ifCond .ne 5, 3) := by decide +kernel
theorem dX5_reason_41 : decode cX5_reason 41 = .ok (.iconst (-1), 1) := by decide +kernel
theorem dX5_reason_42 : decode cX5_reason 42 = .ok (.ireturn, 1) := by decide +kernel
theorem dX5_reason_43 : decode cX5_reason 43 = .ok (.aload_n 0, 1) := by decide +kernel
theorem dX5_reason_44 : decode cX5_reason 44 = .ok (.getfield 10, 3) := by decide +kernel
theorem dX5_reason_47 : decode cX5_reason 47 = .ok (.aload 4, 2) := by decide +kernel
theorem dX5_reason_49 : decode cX5_reason 49 = .ok (.iload_n 2, 1) := by decide +kernel
theorem dX5_reason_50 : decode cX5_reason 50 = .ok (.iconst 2, 1) := by decide +kernel
theorem dX5_reason_51 : decode cX5_reason 51 = .ok (.isub, 1) := by decide +kernel
theorem dX5_reason_52 : decode cX5_reason 52 = .ok (.invokevirtual 114, 3) := by decide +kernel
theorem dX5_reason_55 : decode cX5_reason 55 = .ok (.astore 6, 2) := by decide +kernel
theorem dX5_reason_57 : decode cX5_reason 57 = .ok (.iload_n 2, 1) := by decide +kernel
theorem dX5_reason_58 : decode cX5_reason 58 = .ok (.iconst 2, 1) := by decide +kernel
theorem dX5_reason_59 : decode cX5_reason 59 = .ok (.if_icmp .lt 10, 3) := by decide +kernel
theorem dX5_reason_62 : decode cX5_reason 62 = .ok (.aload 6, 2) := by decide +kernel
theorem dX5_reason_64 : decode cX5_reason 64 = .ok (.ifnonnull 5, 3) := by decide +kernel
theorem dX5_reason_67 : decode cX5_reason 67 = .ok (.iconst (-1), 1) := by decide +kernel
theorem dX5_reason_68 : decode cX5_reason 68 = .ok (.ireturn, 1) := by decide +kernel
theorem dX5_reason_69 : decode cX5_reason 69 = .ok (.iload_n 3, 1) := by decide +kernel
theorem dX5_reason_70 : decode cX5_reason 70 = .ok (.ifCond .lt 8, 3) := by decide +kernel
theorem dX5_reason_73 : decode cX5_reason 73 = .ok (.iload_n 3, 1) := by decide +kernel
theorem dX5_reason_74 : decode cX5_reason 74 = .ok (.iconst 2, 1) := by decide +kernel
theorem dX5_reason_75 : decode cX5_reason 75 = .ok (.if_icmp .le 6, 3) := by decide +kernel
theorem dX5_reason_78 : decode cX5_reason 78 = .ok (.bipush (-2), 2) := by decide +kernel
theorem dX5_reason_80 : decode cX5_reason 80 = .ok (.ireturn, 1) := by decide +kernel
theorem dX5_reason_81 : decode cX5_reason 81 = .ok (.aload 6, 2) := by decide +kernel
theorem dX5_reason_83 : decode cX5_reason 83 = .ok (.ifnonnull 14, 3) := by decide +kernel
theorem dX5_reason_86 : decode cX5_reason 86 = .ok (.aload_n 0, 1) := by decide +kernel
theorem dX5_reason_87 : decode cX5_reason 87 = .ok (.aload 4, 2) := by decide +kernel
theorem dX5_reason_89 : decode cX5_reason 89 = .ok (.iload_n 2, 1) := by decide +kernel
theorem dX5_reason_90 : decode cX5_reason 90 = .ok (.iload_n 3, 1) := by decide +kernel
theorem dX5_reason_91 : decode cX5_reason 91 = .ok (.invokevirtual 118, 3) := by decide +kernel
theorem dX5_reason_94 : decode cX5_reason 94 = .ok (.goto 15, 3) := by decide +kernel
theorem dX5_reason_97 : decode cX5_reason 97 = .ok (.aload_n 0, 1) := by decide +kernel
theorem dX5_reason_98 : decode cX5_reason 98 = .ok (.aload 6, 2) := by decide +kernel
theorem dX5_reason_100 : decode cX5_reason 100 = .ok (.aload 5, 2) := by decide +kernel
theorem dX5_reason_102 : decode cX5_reason 102 = .ok (.getfield 122, 3) := by decide +kernel
theorem dX5_reason_105 : decode cX5_reason 105 = .ok (.iload_n 3, 1) := by decide +kernel
theorem dX5_reason_106 : decode cX5_reason 106 = .ok (.invokevirtual 125, 3) := by decide +kernel
theorem dX5_reason_109 : decode cX5_reason 109 = .ok (.l2i, 1) := by decide +kernel
theorem dX5_reason_110 : decode cX5_reason 110 = .ok (.ireturn, 1) := by decide +kernel
theorem dX5_longer_0 : decode cX5_longer 0 = .ok (.aload_n 0, 1) := by decide +kernel
theorem dX5_longer_1 : decode cX5_longer 1 = .ok (.getfield 10, 3) := by decide +kernel
theorem dX5_longer_4 : decode cX5_longer 4 = .ok (.iload_n 1, 1) := by decide +kernel
theorem dX5_longer_5 : decode cX5_longer 5 = .ok (.invokevirtual 65, 3) := by decide +kernel
theorem dX5_longer_8 : decode cX5_longer 8 = .ok (.astore_n 2, 1) := by decide +kernel
theorem dX5_longer_9 : decode cX5_longer 9 = .ok (.aload_n 2, 1) := by decide +kernel
theorem dX5_longer_10 : decode cX5_longer 10 = .ok (.ifnonnull 7, 3) := by decide +kernel
theorem dX5_longer_13 : decode cX5_longer 13 = .ok (.ldc2_w 105, 3) := by decide +kernel
theorem dX5_longer_16 : decode cX5_longer 16 = .ok (.lreturn, 1) := by decide +kernel
theorem dX5_longer_17 : decode cX5_longer 17 = .ok (.aload_n 0, 1) := by decide +kernel
theorem dX5_longer_18 : decode cX5_longer 18 = .ok (.invokevirtual 129, 3) := by decide +kernel
theorem dX5_longer_21 : decode cX5_longer 21 = .ok (.ifCond .ne 7, 3) := by decide +kernel
theorem dX5_longer_24 : decode cX5_longer 24 = .ok (.ldc2_w 97, 3) := by decide +kernel
theorem dX5_longer_27 : decode cX5_longer 27 = .ok (.lreturn, 1) := by decide +kernel
theorem dX5_longer_28 : decode cX5_longer 28 = .ok (.aload_n 2, 1) := by decide +kernel
theorem dX5_longer_29 : decode cX5_longer 29 = .ok (.getfield 133, 3) := by decide +kernel
theorem dX5_longer_32 : decode cX5_longer 32 = .ok (.lstore_n 3, 1) := by decide +kernel
theorem dX5_longer_33 : decode cX5_longer 33 = .ok (.lload_n 3, 1) := by decide +kernel
theorem dX5_longer_34 : decode cX5_longer 34 = .ok (.lstore 5, 2) := by decide +kernel
theorem dX5_longer_36 : decode cX5_longer 36 = .ok (.ldc2_w 136, 3) := by decide +kernel
theorem dX5_longer_39 : decode cX5_longer 39 = .ok (.lstore 7, 2) := by decide +kernel
theorem dX5_longer_41 : decode cX5_longer 41 = .ok (.iconst 0, 1) := by decide +kernel
theorem dX5_longer_42 : decode cX5_longer 42 = .ok (.istore 9, 2) := by decide +kernel
theorem dX5_longer_44 : decode cX5_longer 44 = .ok (.iload 9, 2) := by decide +kernel
theorem dX5_longer_46 : decode cX5_longer 46 = .ok (.i2l, 1) := by decide +kernel
theorem dX5_longer_47 : decode cX5_longer 47 = .ok (.ldc2_w 136, 3) := by decide +kernel
theorem dX5_longer_50 : decode cX5_longer 50 = .ok (.lcmp, 1) := by decide +kernel
theorem dX5_longer_51 : decode cX5_longer 51 = .ok (.ifCond .ge 56, 3) := by decide +kernel
theorem dX5_longer_54 : decode cX5_longer 54 = .ok (.lload 5, 2) := by decide +kernel
theorem dX5_longer_56 : decode cX5_longer 56 = .ok (.lload 7, 2) := by decide +kernel
theorem dX5_longer_58 : decode cX5_longer 58 = .ok (.lcmp, 1) := by decide +kernel
theorem dX5_longer_59 : decode cX5_longer 59 = .ok (.ifCond .ge 48, 3) := by decide +kernel
theorem dX5_longer_62 : decode cX5_longer 62 = .ok (.lload 5, 2) := by decide +kernel
theorem dX5_longer_64 : decode cX5_longer 64 = .ok (.lload 7, 2) := by decide +kernel
theorem dX5_longer_66 : decode cX5_longer 66 = .ok (.ladd, 1) := by decide +kernel
theorem dX5_longer_67 : decode cX5_longer 67 = .ok (.lconst 1, 1) := by decide +kernel
theorem dX5_longer_68 : decode cX5_longer 68 = .ok (.ladd, 1) := by decide +kernel
theorem dX5_longer_69 : decode cX5_longer 69 = .ok (.ldc2_w 138, 3) := by decide +kernel
theorem dX5_longer_72 : decode cX5_longer 72 = .ok (.ldiv, 1) := by decide +kernel
theorem dX5_longer_73 : decode cX5_longer 73 = .ok (.lstore 10, 2) := by decide +kernel
theorem dX5_longer_75 : decode cX5_longer 75 = .ok (.aload_n 2, 1) := by decide +kernel
theorem dX5_longer_76 : decode cX5_longer 76 = .ok (.lload 10, 2) := by decide +kernel
theorem dX5_longer_78 : decode cX5_longer 78 = .ok (.putfield 133, 3) := by decide +kernel
theorem dX5_longer_81 : decode cX5_longer 81 = .ok (.aload_n 0, 1) := by decide +kernel
theorem dX5_longer_82 : decode cX5_longer 82 = .ok (.invokevirtual 129, 3) := by decide +kernel
theorem dX5_longer_85 : decode cX5_longer 85 = .ok (.ifCond .eq 10, 3) := by decide +kernel
theorem dX5_longer_88 : decode cX5_longer 88 = .ok (.lload 10, 2) := by decide +kernel
theorem dX5_longer_90 : decode cX5_longer 90 = .ok (.lstore 5, 2) := by decide +kernel
theorem dX5_longer_92 : decode cX5_longer 92 = .ok (.goto 9, 3) := by decide +kernel
theorem dX5_longer_95 : decode cX5_longer 95 = .ok (.lload 10, 2) := by decide +kernel
theorem dX5_longer_97 : decode cX5_longer 97 = .ok (.lconst 1, 1) := by decide +kernel
theorem dX5_longer_98 : decode cX5_longer 98 = .ok (.lsub, 1) := by decide +kernel
theorem dX5_longer_99 : decode cX5_longer 99 = .ok (.lstore 7, 2) := by decide +kernel
theorem dX5_longer_101 : decode cX5_longer 101 = .ok (.iinc 9 1, 3) := by decide +kernel
theorem dX5_longer_104 : decode cX5_longer 104 = .ok (.goto (-60), 3) := by decide +kernel
theorem dX5_longer_107 : decode cX5_longer 107 = .ok (.aload_n 2, 1) := by decide +kernel
theorem dX5_longer_108 : decode cX5_longer 108 = .ok (.lload_n 3, 1) := by decide +kernel
theorem dX5_longer_109 : decode cX5_longer 109 = .ok (.putfield 133, 3) := by decide +kernel
theorem dX5_longer_112 : decode cX5_longer 112 = .ok (.lload 5, 2) := by decide +kernel
theorem dX5_longer_114 : decode cX5_longer 114 = .ok (.lload_n 3, 1) := by decide +kernel
theorem dX5_longer_115 : decode cX5_longer 115 = .ok (.lsub, 1) := by decide +kernel
theorem dX5_longer_116 : decode cX5_longer 116 = .ok (.lreturn, 1) := by decide +kernel
theorem dX5_busy_0 : decode cX5_busy 0 = .ok (.iload_n 1, 1) := by decide +kernel
theorem dX5_busy_1 : decode cX5_busy 1 = .ok (.ifCond .ne 11, 3) := by decide +kernel
theorem dX5_busy_4 : decode cX5_busy 4 = .ok (.aload_n 0, 1) := by decide +kernel
theorem dX5_busy_5 : decode cX5_busy 5 = .ok (.getfield 10, 3) := by decide +kernel
theorem dX5_busy_8 : decode cX5_busy 8 = .ok (.invokevirtual 140, 3) := by decide +kernel
theorem dX5_busy_11 : decode cX5_busy 11 = .ok (.lreturn, 1) := by decide +kernel
theorem dX5_busy_12 : decode cX5_busy 12 = .ok (.lconst 0, 1) := by decide +kernel
theorem dX5_busy_13 : decode cX5_busy 13 = .ok (.lstore_n 2, 1) := by decide +kernel
theorem dX5_busy_14 : decode cX5_busy 14 = .ok (.lconst 0, 1) := by decide +kernel
theorem dX5_busy_15 : decode cX5_busy 15 = .ok (.lstore 4, 2) := by decide +kernel
theorem dX5_busy_17 : decode cX5_busy 17 = .ok (.iconst 0, 1) := by decide +kernel
theorem dX5_busy_18 : decode cX5_busy 18 = .ok (.istore 6, 2) := by decide +kernel
theorem dX5_busy_20 : decode cX5_busy 20 = .ok (.iload 6, 2) := by decide +kernel
theorem dX5_busy_22 : decode cX5_busy 22 = .ok (.aload_n 0, 1) := by decide +kernel
theorem dX5_busy_23 : decode cX5_busy 23 = .ok (.getfield 10, 3) := by decide +kernel
theorem dX5_busy_26 : decode cX5_busy 26 = .ok (.getfield 36, 3) := by decide +kernel
theorem dX5_busy_29 : decode cX5_busy 29 = .ok (.invokevirtual 40, 3) := by decide +kernel
theorem dX5_busy_32 : decode cX5_busy 32 = .ok (.if_icmp .ge 55, 3) := by decide +kernel
theorem dX5_busy_35 : decode cX5_busy 35 = .ok (.aload_n 0, 1) := by decide +kernel
theorem dX5_busy_36 : decode cX5_busy 36 = .ok (.aload_n 0, 1) := by decide +kernel
theorem dX5_busy_37 : decode cX5_busy 37 = .ok (.getfield 10, 3) := by decide +kernel
theorem dX5_busy_40 : decode cX5_busy 40 = .ok (.getfield 36, 3) := by decide +kernel
theorem dX5_busy_43 : decode cX5_busy 43 = .ok (.iload 6, 2) := by decide +kernel
theorem dX5_busy_45 : decode cX5_busy 45 = .ok (.invokevirtual 144, 3) := by decide +kernel
theorem dX5_busy_48 : decode cX5_busy 48 = .ok (.checkcast 53, 3) := by decide +kernel
theorem dX5_busy_51 : decode cX5_busy 51 = .ok (.invokevirtual 107, 3) := by decide +kernel
theorem dX5_busy_54 : decode cX5_busy 54 = .ok (.getfield 111, 3) := by decide +kernel
theorem dX5_busy_57 : decode cX5_busy 57 = .ok (.lstore 7, 2) := by decide +kernel
theorem dX5_busy_59 : decode cX5_busy 59 = .ok (.lload 7, 2) := by decide +kernel
theorem dX5_busy_61 : decode cX5_busy 61 = .ok (.ldc2_w 97, 3) := by decide +kernel
theorem dX5_busy_64 : decode cX5_busy 64 = .ok (.lcmp, 1) := by decide +kernel
theorem dX5_busy_65 : decode cX5_busy 65 = .ok (.ifCond .eq 16, 3) := by decide +kernel
theorem dX5_busy_68 : decode cX5_busy 68 = .ok (.lload_n 2, 1) := by decide +kernel
theorem dX5_busy_69 : decode cX5_busy 69 = .ok (.lconst 1, 1) := by decide +kernel
theorem dX5_busy_70 : decode cX5_busy 70 = .ok (.ladd, 1) := by decide +kernel
theorem dX5_busy_71 : decode cX5_busy 71 = .ok (.lstore_n 2, 1) := by decide +kernel
theorem dX5_busy_72 : decode cX5_busy 72 = .ok (.lload 4, 2) := by decide +kernel
theorem dX5_busy_74 : decode cX5_busy 74 = .ok (.lload 7, 2) := by decide +kernel
theorem dX5_busy_76 : decode cX5_busy 76 = .ok (.invokestatic 148, 3) := by decide +kernel
theorem dX5_busy_79 : decode cX5_busy 79 = .ok (.lstore 4, 2) := by decide +kernel
theorem dX5_busy_81 : decode cX5_busy 81 = .ok (.iinc 6 1, 3) := by decide +kernel
theorem dX5_busy_84 : decode cX5_busy 84 = .ok (.goto (-64), 3) := by decide +kernel
theorem dX5_busy_87 : decode cX5_busy 87 = .ok (.iload_n 1, 1) := by decide +kernel
theorem dX5_busy_88 : decode cX5_busy 88 = .ok (.iconst 1, 1) := by decide +kernel
theorem dX5_busy_89 : decode cX5_busy 89 = .ok (.if_icmp .ne 7, 3) := by decide +kernel
theorem dX5_busy_92 : decode cX5_busy 92 = .ok (.lload_n 2, 1) := by decide +kernel
theorem dX5_busy_93 : decode cX5_busy 93 = .ok (.goto 5, 3) := by decide +kernel
theorem dX5_busy_96 : decode cX5_busy 96 = .ok (.lload 4, 2) := by decide +kernel
theorem dX5_busy_98 : decode cX5_busy 98 = .ok (.lreturn, 1) := by decide +kernel
theorem dX5_plain_0 : decode cX5_plain 0 = .ok (.aload_n 0, 1) := by decide +kernel
theorem dX5_plain_1 : decode cX5_plain 1 = .ok (.getfield 10, 3) := by decide +kernel
theorem dX5_plain_4 : decode cX5_plain 4 = .ok (.iload_n 1, 1) := by decide +kernel
theorem dX5_plain_5 : decode cX5_plain 5 = .ok (.invokevirtual 65, 3) := by decide +kernel
theorem dX5_plain_8 : decode cX5_plain 8 = .ok (.astore_n 2, 1) := by decide +kernel
theorem dX5_plain_9 : decode cX5_plain 9 = .ok (.aload_n 2, 1) := by decide +kernel
theorem dX5_plain_10 : decode cX5_plain 10 = .ok (.ifnull 13, 3) := by decide +kernel
theorem dX5_plain_13 : decode cX5_plain 13 = .ok (.aload_n 0, 1) := by decide +kernel
theorem dX5_plain_14 : decode cX5_plain 14 = .ok (.getfield 10, 3) := by decide +kernel
theorem dX5_plain_17 : decode cX5_plain 17 = .ok (.invokevirtual 154, 3) := by decide +kernel
theorem dX5_plain_20 : decode cX5_plain 20 = .ok (.ifCond .ne 5, 3) := by decide +kernel
theorem dX5_plain_23 : decode cX5_plain 23 = .ok (.iconst 0, 1) := by decide +kernel
theorem dX5_plain_24 : decode cX5_plain 24 = .ok (.ireturn, 1) := by decide +kernel
theorem dX5_plain_25 : decode cX5_plain 25 = .ok (.aload_n 0, 1) := by decide +kernel
theorem dX5_plain_26 : decode cX5_plain 26 = .ok (.aload_n 2, 1) := by decide +kernel
theorem dX5_plain_27 : decode cX5_plain 27 = .ok (.invokevirtual 107, 3) := by decide +kernel
theorem dX5_plain_30 : decode cX5_plain 30 = .ok (.getfield 111, 3) := by decide +kernel
theorem dX5_plain_33 : decode cX5_plain 33 = .ok (.lstore_n 3, 1) := by decide +kernel
theorem dX5_plain_34 : decode cX5_plain 34 = .ok (.lload_n 3, 1) := by decide +kernel
theorem dX5_plain_35 : decode cX5_plain 35 = .ok (.ldc2_w 97, 3) := by decide +kernel
theorem dX5_plain_38 : decode cX5_plain 38 = .ok (.lcmp, 1) := by decide +kernel
theorem dX5_plain_39 : decode cX5_plain 39 = .ok (.ifCond .ne 5, 3) := by decide +kernel
theorem dX5_plain_42 : decode cX5_plain 42 = .ok (.iconst 0, 1) := by decide +kernel
theorem dX5_plain_43 : decode cX5_plain 43 = .ok (.ireturn, 1) := by decide +kernel
theorem dX5_plain_44 : decode cX5_plain 44 = .ok (.aload_n 0, 1) := by decide +kernel
theorem dX5_plain_45 : decode cX5_plain 45 = .ok (.getfield 19, 3) := by decide +kernel
theorem dX5_plain_48 : decode cX5_plain 48 = .ok (.getfield 157, 3) := by decide +kernel
theorem dX5_plain_51 : decode cX5_plain 51 = .ok (.ifCond .ne 17, 3) := by decide +kernel
theorem dX5_plain_54 : decode cX5_plain 54 = .ok (.aload_n 0, 1) := by decide +kernel
theorem dX5_plain_55 : decode cX5_plain 55 = .ok (.getfield 19, 3) := by decide +kernel
theorem dX5_plain_58 : decode cX5_plain 58 = .ok (.aload_n 0, 1) := by decide +kernel
theorem dX5_plain_59 : decode cX5_plain 59 = .ok (.getfield 10, 3) := by decide +kernel
theorem dX5_plain_62 : decode cX5_plain 62 = .ok (.getfield 36, 3) := by decide +kernel
theorem dX5_plain_65 : decode cX5_plain 65 = .ok (.invokevirtual 161, 3) := by decide +kernel
theorem dX5_plain_68 : decode cX5_plain 68 = .ok (.aload_n 0, 1) := by decide +kernel
theorem dX5_plain_69 : decode cX5_plain 69 = .ok (.getfield 19, 3) := by decide +kernel
theorem dX5_plain_72 : decode cX5_plain 72 = .ok (.iload_n 1, 1) := by decide +kernel
theorem dX5_plain_73 : decode cX5_plain 73 = .ok (.iconst 1, 1) := by decide +kernel
theorem dX5_plain_74 : decode cX5_plain 74 = .ok (.isub, 1) := by decide +kernel
theorem dX5_plain_75 : decode cX5_plain 75 = .ok (.invokevirtual 165, 3) := by decide +kernel
theorem dX5_plain_78 : decode cX5_plain 78 = .ok (.lstore 5, 2) := by decide +kernel
theorem dX5_plain_80 : decode cX5_plain 80 = .ok (.aload_n 0, 1) := by decide +kernel
theorem dX5_plain_81 : decode cX5_plain 81 = .ok (.getfield 10, 3) := by decide +kernel
theorem dX5_plain_84 : decode cX5_plain 84 = .ok (.invokevirtual 169, 3) := by decide +kernel
theorem dX5_plain_87 : decode cX5_plain 87 = .ok (.ifCond .eq 18, 3) := by decide +kernel
theorem dX5_plain_90 : decode cX5_plain 90 = .ok (.lload 5, 2) := by decide +kernel
theorem dX5_plain_92 : decode cX5_plain 92 = .ok (.lload_n 3, 1) := by decide +kernel
theorem dX5_plain_93 : decode cX5_plain 93 = .ok (.lcmp, 1) := by decide +kernel
theorem dX5_plain_94 : decode cX5_plain 94 = .ok (.ifCond .gt 7, 3) := by decide +kernel
theorem dX5_plain_97 : decode cX5_plain 97 = .ok (.iconst 1, 1) := by decide +kernel
theorem dX5_plain_98 : decode cX5_plain 98 = .ok (.goto 19, 3) := by decide +kernel
theorem dX5_plain_101 : decode cX5_plain 101 = .ok (.iconst 0, 1) := by decide +kernel
theorem dX5_plain_102 : decode cX5_plain 102 = .ok (.goto 15, 3) := by decide +kernel
theorem dX5_plain_105 : decode cX5_plain 105 = .ok (.lload 5, 2) := by decide +kernel
theorem dX5_plain_107 : decode cX5_plain 107 = .ok (.lload_n 3, 1) := by decide +kernel
theorem dX5_plain_108 : decode cX5_plain 108 = .ok (.lcmp, 1) := by decide +kernel
theorem dX5_plain_109 : decode cX5_plain 109 = .ok (.ifCond .ne 7, 3) := by decide +kernel
theorem dX5_plain_112 : decode cX5_plain 112 = .ok (.iconst 1, 1) := by decide +kernel
theorem dX5_plain_113 : decode cX5_plain 113 = .ok (.goto 4, 3) := by decide +kernel
theorem dX5_plain_116 : decode cX5_plain 116 = .ok (.iconst 0, 1) := by decide +kernel
theorem dX5_plain_117 : decode cX5_plain 117 = .ok (.ireturn, 1) := by decide +kernel
theorem dX5_interrupt_0 : decode cX5_interrupt 0 = .ok (.lload_n 1, 1) := by decide +kernel
theorem dX5_interrupt_1 : decode cX5_interrupt 1 = .ok (.invokestatic 30, 3) := by decide +kernel
theorem dX5_interrupt_4 : decode cX5_interrupt 4 = .ok (.ifCond .eq 10, 3) := by decide +kernel
theorem dX5_interrupt_7 : decode cX5_interrupt 7 = .ok (.lload_n 3, 1) := by decide +kernel
theorem dX5_interrupt_8 : decode cX5_interrupt 8 = .ok (.invokestatic 73, 3) := by decide +kernel
theorem dX5_interrupt_11 : decode cX5_interrupt 11 = .ok (.ifCond .ne 6, 3) := by decide +kernel
theorem dX5_interrupt_14 : decode cX5_interrupt 14 = .ok (.bipush (-2), 2) := by decide +kernel
theorem dX5_interrupt_16 : decode cX5_interrupt 16 = .ok (.ireturn, 1) := by decide +kernel
theorem dX5_interrupt_17 : decode cX5_interrupt 17 = .ok (.aload_n 0, 1) := by decide +kernel
theorem dX5_interrupt_18 : decode cX5_interrupt 18 = .ok (.getfield 10, 3) := by decide +kernel
theorem dX5_interrupt_21 : decode cX5_interrupt 21 = .ok (.getfield 172, 3) := by decide +kernel
theorem dX5_interrupt_24 : decode cX5_interrupt 24 = .ok (.invokevirtual 40, 3) := by decide +kernel
theorem dX5_interrupt_27 : decode cX5_interrupt 27 = .ok (.iconst 1, 1) := by decide +kernel
theorem dX5_interrupt_28 : decode cX5_interrupt 28 = .ok (.iadd, 1) := by decide +kernel
theorem dX5_interrupt_29 : decode cX5_interrupt 29 = .ok (.istore 5, 2) := by decide +kernel
theorem dX5_interrupt_31 : decode cX5_interrupt 31 = .ok (.iload 5, 2) := by decide +kernel
theorem dX5_interrupt_33 : decode cX5_interrupt 33 = .ok (.bipush 8, 2) := by decide +kernel
theorem dX5_interrupt_35 : decode cX5_interrupt 35 = .ok (.if_icmp .le 6, 3) := by decide +kernel
theorem dX5_interrupt_38 : decode cX5_interrupt 38 = .ok (.bipush (-4), 2) := by decide +kernel
theorem dX5_interrupt_40 : decode cX5_interrupt 40 = .ok (.ireturn, 1) := by decide +kernel
theorem dX5_interrupt_41 : decode cX5_interrupt 41 = .ok (.aload_n 0, 1) := by decide +kernel
theorem dX5_interrupt_42 : decode cX5_interrupt 42 = .ok (.getfield 10, 3) := by decide +kernel
theorem dX5_interrupt_45 : decode cX5_interrupt 45 = .ok (.getfield 172, 3) := by decide +kernel
theorem dX5_interrupt_48 : decode cX5_interrupt 48 = .ok (.new 175, 3) := by decide +kernel
theorem dX5_interrupt_51 : decode cX5_interrupt 51 = .ok (.dup, 1) := by decide +kernel
theorem dX5_interrupt_52 : decode cX5_interrupt 52 = .ok (.iload 5, 2) := by decide +kernel
theorem dX5_interrupt_54 : decode cX5_interrupt 54 = .ok (.ineg, 1) := by decide +kernel
theorem dX5_interrupt_55 : decode cX5_interrupt 55 = .ok (.lload_n 1, 1) := by decide +kernel
theorem dX5_interrupt_56 : decode cX5_interrupt 56 = .ok (.lload_n 3, 1) := by decide +kernel
theorem dX5_interrupt_57 : decode cX5_interrupt 57 = .ok (.invokespecial 177, 3) := by decide +kernel
theorem dX5_interrupt_60 : decode cX5_interrupt 60 = .ok (.invokevirtual 58, 3) := by decide +kernel
theorem dX5_interrupt_63 : decode cX5_interrupt 63 = .ok (.pop, 1) := by decide +kernel
theorem dX5_interrupt_64 : decode cX5_interrupt 64 = .ok (.aload_n 0, 1) := by decide +kernel
theorem dX5_interrupt_65 : decode cX5_interrupt 65 = .ok (.invokevirtual 62, 3) := by decide +kernel
theorem dX5_interrupt_68 : decode cX5_interrupt 68 = .ok (.iload 5, 2) := by decide +kernel
theorem dX5_interrupt_70 : decode cX5_interrupt 70 = .ok (.ireturn, 1) := by decide +kernel
theorem dX5_spin_0 : decode cX5_spin 0 = .ok (.aload_n 0, 1) := by decide +kernel
theorem dX5_spin_1 : decode cX5_spin 1 = .ok (.getfield 10, 3) := by decide +kernel
theorem dX5_spin_4 : decode cX5_spin 4 = .ok (.iload_n 1, 1) := by decide +kernel
theorem dX5_spin_5 : decode cX5_spin 5 = .ok (.invokevirtual 65, 3) := by decide +kernel
theorem dX5_spin_8 : decode cX5_spin 8 = .ok (.astore 4, 2) := by decide +kernel
theorem dX5_spin_10 : decode cX5_spin 10 = .ok (.aload 4, 2) := by decide +kernel
theorem dX5_spin_12 : decode cX5_spin 12 = .ok (.ifnonnull 5, 3) := by decide +kernel
theorem dX5_spin_15 : decode cX5_spin 15 = .ok (.iconst (-1), 1) := by decide +kernel
theorem dX5_spin_16 : decode cX5_spin 16 = .ok (.ireturn, 1) := by decide +kernel
theorem dX5_spin_17 : decode cX5_spin 17 = .ok (.lload_n 2, 1) := by decide +kernel
theorem dX5_spin_18 : decode cX5_spin 18 = .ok (.lconst 0, 1) := by decide +kernel
theorem dX5_spin_19 : decode cX5_spin 19 = .ok (.lcmp, 1) := by decide +kernel
theorem dX5_spin_20 : decode cX5_spin 20 = .ok (.ifCond .lt 11, 3) := by decide +kernel
theorem dX5_spin_23 : decode cX5_spin 23 = .ok (.lload_n 2, 1) := by decide +kernel
theorem dX5_spin_24 : decode cX5_spin 24 = .ok (.ldc2_w 136, 3) := by decide +kernel
theorem dX5_spin_27 : decode cX5_spin 27 = .ok (.lcmp, 1) := by decide +kernel
theorem dX5_spin_28 : decode cX5_spin 28 = .ok (.ifCond .le 6, 3) := by decide +kernel
theorem dX5_spin_31 : decode cX5_spin 31 = .ok (.bipush (-2), 2) := by decide +kernel
theorem dX5_spin_33 : decode cX5_spin 33 = .ok (.ireturn, 1) := by decide +kernel
theorem dX5_spin_34 : decode cX5_spin 34 = .ok (.aload 4, 2) := by decide +kernel
theorem dX5_spin_36 : decode cX5_spin 36 = .ok (.lload_n 2, 1) := by decide +kernel
theorem dX5_spin_37 : decode cX5_spin 37 = .ok (.putfield 180, 3) := by decide +kernel
theorem dX5_spin_40 : decode cX5_spin 40 = .ok (.aload_n 0, 1) := by decide +kernel
theorem dX5_spin_41 : decode cX5_spin 41 = .ok (.invokevirtual 62, 3) := by decide +kernel
theorem dX5_spin_44 : decode cX5_spin 44 = .ok (.iconst 1, 1) := by decide +kernel
theorem dX5_spin_45 : decode cX5_spin 45 = .ok (.ireturn, 1) := by decide +kernel
theorem dX5_isLength_0 : decode cX5_isLength 0 = .ok (.lload_n 0, 1) := by decide +kernel
theorem dX5_isLength_1 : decode cX5_isLength 1 = .ok (.lconst 1, 1) := by decide +kernel
theorem dX5_isLength_2 : decode cX5_isLength 2 = .ok (.lcmp, 1) := by decide +kernel
theorem dX5_isLength_3 : decode cX5_isLength 3 = .ok (.ifCond .lt 15, 3) := by decide +kernel
theorem dX5_isLength_6 : decode cX5_isLength 6 = .ok (.lload_n 0, 1) := by decide +kernel
theorem dX5_isLength_7 : decode cX5_isLength 7 = .ok (.ldc2_w 136, 3) := by decide +kernel
theorem dX5_isLength_10 : decode cX5_isLength 10 = .ok (.lcmp, 1) := by decide +kernel
theorem dX5_isLength_11 : decode cX5_isLength 11 = .ok (.ifCond .gt 7, 3) := by decide +kernel
theorem dX5_isLength_14 : decode cX5_isLength 14 = .ok (.iconst 1, 1) := by decide +kernel
theorem dX5_isLength_15 : decode cX5_isLength 15 = .ok (.goto 4, 3) := by decide +kernel
theorem dX5_isLength_18 : decode cX5_isLength 18 = .ok (.iconst 0, 1) := by decide +kernel
theorem dX5_isLength_19 : decode cX5_isLength 19 = .ok (.ireturn, 1) := by decide +kernel
theorem dX5_isPeriod_0 : decode cX5_isPeriod 0 = .ok (.lload_n 0, 1) := by decide +kernel
theorem dX5_isPeriod_1 : decode cX5_isPeriod 1 = .ok (.lconst 1, 1) := by decide +kernel
theorem dX5_isPeriod_2 : decode cX5_isPeriod 2 = .ok (.lcmp, 1) := by decide +kernel
theorem dX5_isPeriod_3 : decode cX5_isPeriod 3 = .ok (.ifCond .lt 15, 3) := by decide +kernel
theorem dX5_isPeriod_6 : decode cX5_isPeriod 6 = .ok (.lload_n 0, 1) := by decide +kernel
theorem dX5_isPeriod_7 : decode cX5_isPeriod 7 = .ok (.ldc2_w 34, 3) := by decide +kernel
theorem dX5_isPeriod_10 : decode cX5_isPeriod 10 = .ok (.lcmp, 1) := by decide +kernel
theorem dX5_isPeriod_11 : decode cX5_isPeriod 11 = .ok (.ifCond .gt 7, 3) := by decide +kernel
theorem dX5_isPeriod_14 : decode cX5_isPeriod 14 = .ok (.iconst 1, 1) := by decide +kernel
theorem dX5_isPeriod_15 : decode cX5_isPeriod 15 = .ok (.goto 4, 3) := by decide +kernel
theorem dX5_isPeriod_18 : decode cX5_isPeriod 18 = .ok (.iconst 0, 1) := by decide +kernel
theorem dX5_isPeriod_19 : decode cX5_isPeriod 19 = .ok (.ireturn, 1) := by decide +kernel
theorem dX5_upwards_0 : decode cX5_upwards 0 = .ok (.lload_n 2, 1) := by decide +kernel
theorem dX5_upwards_1 : decode cX5_upwards 1 = .ok (.lconst 1, 1) := by decide +kernel
theorem dX5_upwards_2 : decode cX5_upwards 2 = .ok (.lcmp, 1) := by decide +kernel
theorem dX5_upwards_3 : decode cX5_upwards 3 = .ok (.ifCond .ge 7, 3) := by decide +kernel
theorem dX5_upwards_6 : decode cX5_upwards 6 = .ok (.lconst 0, 1) := by decide +kernel
theorem dX5_upwards_7 : decode cX5_upwards 7 = .ok (.goto 10, 3) := by decide +kernel
theorem dX5_upwards_10 : decode cX5_upwards 10 = .ok (.lload_n 0, 1) := by decide +kernel
theorem dX5_upwards_11 : decode cX5_upwards 11 = .ok (.lload_n 2, 1) := by decide +kernel
theorem dX5_upwards_12 : decode cX5_upwards 12 = .ok (.ladd, 1) := by decide +kernel
theorem dX5_upwards_13 : decode cX5_upwards 13 = .ok (.lconst 1, 1) := by decide +kernel
theorem dX5_upwards_14 : decode cX5_upwards 14 = .ok (.lsub, 1) := by decide +kernel
theorem dX5_upwards_15 : decode cX5_upwards 15 = .ok (.lload_n 2, 1) := by decide +kernel
theorem dX5_upwards_16 : decode cX5_upwards 16 = .ok (.ldiv, 1) := by decide +kernel
theorem dX5_upwards_17 : decode cX5_upwards 17 = .ok (.lreturn, 1) := by decide +kernel
theorem dX5_whole_0 : decode cX5_whole 0 = .ok (.lload_n 2, 1) := by decide +kernel
theorem dX5_whole_1 : decode cX5_whole 1 = .ok (.lconst 1, 1) := by decide +kernel
theorem dX5_whole_2 : decode cX5_whole 2 = .ok (.lcmp, 1) := by decide +kernel
theorem dX5_whole_3 : decode cX5_whole 3 = .ok (.ifCond .ge 7, 3) := by decide +kernel
theorem dX5_whole_6 : decode cX5_whole 6 = .ok (.lconst 0, 1) := by decide +kernel
theorem dX5_whole_7 : decode cX5_whole 7 = .ok (.goto 6, 3) := by decide +kernel
theorem dX5_whole_10 : decode cX5_whole 10 = .ok (.lload_n 0, 1) := by decide +kernel
theorem dX5_whole_11 : decode cX5_whole 11 = .ok (.lload_n 2, 1) := by decide +kernel
theorem dX5_whole_12 : decode cX5_whole 12 = .ok (.ldiv, 1) := by decide +kernel
theorem dX5_whole_13 : decode cX5_whole 13 = .ok (.lreturn, 1) := by decide +kernel
theorem dX5_forgetFindings_0 : decode cX5_forgetFindings 0 = .ok (.iconst 0, 1) := by decide +kernel
theorem dX5_forgetFindings_1 : decode cX5_forgetFindings 1 = .ok (.istore_n 1, 1) := by decide +kernel
theorem dX5_forgetFindings_2 : decode cX5_forgetFindings 2 = .ok (.iload_n 1, 1) := by decide +kernel
theorem dX5_forgetFindings_3 : decode cX5_forgetFindings 3 = .ok (.aload_n 0, 1) := by decide +kernel
theorem dX5_forgetFindings_4 : decode cX5_forgetFindings 4 = .ok (.getfield 10, 3) := by decide +kernel
theorem dX5_forgetFindings_7 : decode cX5_forgetFindings 7 = .ok (.getfield 36, 3) := by decide +kernel
theorem dX5_forgetFindings_10 : decode cX5_forgetFindings 10 = .ok (.invokevirtual 40, 3) := by decide +kernel
theorem dX5_forgetFindings_13 : decode cX5_forgetFindings 13 = .ok (.if_icmp .ge 30, 3) := by decide +kernel
theorem dX5_forgetFindings_16 : decode cX5_forgetFindings 16 = .ok (.aload_n 0, 1) := by decide +kernel
theorem dX5_forgetFindings_17 : decode cX5_forgetFindings 17 = .ok (.getfield 10, 3) := by decide +kernel
theorem dX5_forgetFindings_20 : decode cX5_forgetFindings 20 = .ok (.getfield 36, 3) := by decide +kernel
theorem dX5_forgetFindings_23 : decode cX5_forgetFindings 23 = .ok (.iload_n 1, 1) := by decide +kernel
theorem dX5_forgetFindings_24 : decode cX5_forgetFindings 24 = .ok (.invokevirtual 144, 3) := by decide +kernel
theorem dX5_forgetFindings_27 : decode cX5_forgetFindings 27 = .ok (.checkcast 53, 3) := by decide +kernel
theorem dX5_forgetFindings_30 : decode cX5_forgetFindings 30 = .ok (.getfield 183, 3) := by decide +kernel
theorem dX5_forgetFindings_33 : decode cX5_forgetFindings 33 = .ok (.iconst 0, 1) := by decide +kernel
theorem dX5_forgetFindings_34 : decode cX5_forgetFindings 34 = .ok (.putfield 186, 3) := by decide +kernel
theorem dX5_forgetFindings_37 : decode cX5_forgetFindings 37 = .ok (.iinc 1 1, 3) := by decide +kernel
theorem dX5_forgetFindings_40 : decode cX5_forgetFindings 40 = .ok (.goto (-38), 3) := by decide +kernel
theorem dX5_forgetFindings_43 : decode cX5_forgetFindings 43 = .ok (.aload_n 0, 1) := by decide +kernel
theorem dX5_forgetFindings_44 : decode cX5_forgetFindings 44 = .ok (.getfield 19, 3) := by decide +kernel
theorem dX5_forgetFindings_47 : decode cX5_forgetFindings 47 = .ok (.iconst 0, 1) := by decide +kernel
theorem dX5_forgetFindings_48 : decode cX5_forgetFindings 48 = .ok (.putfield 157, 3) := by decide +kernel
theorem dX5_forgetFindings_51 : decode cX5_forgetFindings 51 = .ok (.return_, 1) := by decide +kernel
theorem dX5_findingOf_0 : decode cX5_findingOf 0 = .ok (.aload_n 1, 1) := by decide +kernel
theorem dX5_findingOf_1 : decode cX5_findingOf 1 = .ok (.getfield 183, 3) := by decide +kernel
theorem dX5_findingOf_4 : decode cX5_findingOf 4 = .ok (.getfield 186, 3) := by decide +kernel
theorem dX5_findingOf_7 : decode cX5_findingOf 7 = .ok (.ifCond .ne 15, 3) := by decide +kernel
theorem dX5_findingOf_10 : decode cX5_findingOf 10 = .ok (.aload_n 0, 1) := by decide +kernel
theorem dX5_findingOf_11 : decode cX5_findingOf 11 = .ok (.getfield 10, 3) := by decide +kernel
theorem dX5_findingOf_14 : decode cX5_findingOf 14 = .ok (.aload_n 1, 1) := by decide +kernel
theorem dX5_findingOf_15 : decode cX5_findingOf 15 = .ok (.aload_n 1, 1) := by decide +kernel
theorem dX5_findingOf_16 : decode cX5_findingOf 16 = .ok (.getfield 183, 3) := by decide +kernel
theorem dX5_findingOf_19 : decode cX5_findingOf 19 = .ok (.invokevirtual 187, 3) := by decide +kernel
theorem dX5_findingOf_22 : decode cX5_findingOf 22 = .ok (.aload_n 1, 1) := by decide +kernel
theorem dX5_findingOf_23 : decode cX5_findingOf 23 = .ok (.getfield 183, 3) := by decide +kernel
theorem dX5_findingOf_26 : decode cX5_findingOf 26 = .ok (.areturn, 1) := by decide +kernel
theorem dX5_rowOfItself_0 : decode cX5_rowOfItself 0 = .ok (.iload_n 3, 1) := by decide +kernel
theorem dX5_rowOfItself_1 : decode cX5_rowOfItself 1 = .ok (.iconst 1, 1) := by decide +kernel
theorem dX5_rowOfItself_2 : decode cX5_rowOfItself 2 = .ok (.if_icmp .eq 5, 3) := by decide +kernel
theorem dX5_rowOfItself_5 : decode cX5_rowOfItself 5 = .ok (.lconst 0, 1) := by decide +kernel
theorem dX5_rowOfItself_6 : decode cX5_rowOfItself 6 = .ok (.lreturn, 1) := by decide +kernel
theorem dX5_rowOfItself_7 : decode cX5_rowOfItself 7 = .ok (.iload_n 2, 1) := by decide +kernel
theorem dX5_rowOfItself_8 : decode cX5_rowOfItself 8 = .ok (.ifCond .ne 21, 3) := by decide +kernel
theorem dX5_rowOfItself_11 : decode cX5_rowOfItself 11 = .ok (.aload_n 1, 1) := by decide +kernel
theorem dX5_rowOfItself_12 : decode cX5_rowOfItself 12 = .ok (.getfield 183, 3) := by decide +kernel
theorem dX5_rowOfItself_15 : decode cX5_rowOfItself 15 = .ok (.getfield 191, 3) := by decide +kernel
theorem dX5_rowOfItself_18 : decode cX5_rowOfItself 18 = .ok (.iconst 1, 1) := by decide +kernel
theorem dX5_rowOfItself_19 : decode cX5_rowOfItself 19 = .ok (.iadd, 1) := by decide +kernel
theorem dX5_rowOfItself_20 : decode cX5_rowOfItself 20 = .ok (.i2l, 1) := by decide +kernel
theorem dX5_rowOfItself_21 : decode cX5_rowOfItself 21 = .ok (.aload_n 1, 1) := by decide +kernel
theorem dX5_rowOfItself_22 : decode cX5_rowOfItself 22 = .ok (.invokevirtual 194, 3) := by decide +kernel
theorem dX5_rowOfItself_25 : decode cX5_rowOfItself 25 = .ok (.lmul, 1) := by decide +kernel
theorem dX5_rowOfItself_26 : decode cX5_rowOfItself 26 = .ok (.goto 11, 3) := by decide +kernel
theorem dX5_rowOfItself_29 : decode cX5_rowOfItself 29 = .ok (.aload_n 0, 1) := by decide +kernel
theorem dX5_rowOfItself_30 : decode cX5_rowOfItself 30 = .ok (.getfield 10, 3) := by decide +kernel
theorem dX5_rowOfItself_33 : decode cX5_rowOfItself 33 = .ok (.aload_n 1, 1) := by decide +kernel
theorem dX5_rowOfItself_34 : decode cX5_rowOfItself 34 = .ok (.invokevirtual 197, 3) := by decide +kernel
theorem dX5_rowOfItself_37 : decode cX5_rowOfItself 37 = .ok (.lreturn, 1) := by decide +kernel
theorem dX5_rowOfPart_0 : decode cX5_rowOfPart 0 = .ok (.iload 4, 2) := by decide +kernel
theorem dX5_rowOfPart_2 : decode cX5_rowOfPart 2 = .ok (.iconst 2, 1) := by decide +kernel
theorem dX5_rowOfPart_3 : decode cX5_rowOfPart 3 = .ok (.if_icmp .ne 9, 3) := by decide +kernel
theorem dX5_rowOfPart_6 : decode cX5_rowOfPart 6 = .ok (.aload_n 1, 1) := by decide +kernel
theorem dX5_rowOfPart_7 : decode cX5_rowOfPart 7 = .ok (.getfield 201, 3) := by decide +kernel
theorem dX5_rowOfPart_10 : decode cX5_rowOfPart 10 = .ok (.i2l, 1) := by decide +kernel
theorem dX5_rowOfPart_11 : decode cX5_rowOfPart 11 = .ok (.lreturn, 1) := by decide +kernel
theorem dX5_rowOfPart_12 : decode cX5_rowOfPart 12 = .ok (.aload_n 1, 1) := by decide +kernel
theorem dX5_rowOfPart_13 : decode cX5_rowOfPart 13 = .ok (.lload_n 2, 1) := by decide +kernel
theorem dX5_rowOfPart_14 : decode cX5_rowOfPart 14 = .ok (.invokevirtual 204, 3) := by decide +kernel
theorem dX5_rowOfPart_17 : decode cX5_rowOfPart 17 = .ok (.lstore 5, 2) := by decide +kernel
theorem dX5_rowOfPart_19 : decode cX5_rowOfPart 19 = .ok (.iload 4, 2) := by decide +kernel
theorem dX5_rowOfPart_21 : decode cX5_rowOfPart 21 = .ok (.ifCond .ne 8, 3) := by decide +kernel
theorem dX5_rowOfPart_24 : decode cX5_rowOfPart 24 = .ok (.lload 5, 2) := by decide +kernel
theorem dX5_rowOfPart_26 : decode cX5_rowOfPart 26 = .ok (.goto 10, 3) := by decide +kernel
theorem dX5_rowOfPart_29 : decode cX5_rowOfPart 29 = .ok (.lload 5, 2) := by decide +kernel
theorem dX5_rowOfPart_31 : decode cX5_rowOfPart 31 = .ok (.aload_n 1, 1) := by decide +kernel
theorem dX5_rowOfPart_32 : decode cX5_rowOfPart 32 = .ok (.invokevirtual 208, 3) := by decide +kernel
theorem dX5_rowOfPart_35 : decode cX5_rowOfPart 35 = .ok (.lmul, 1) := by decide +kernel
theorem dX5_rowOfPart_36 : decode cX5_rowOfPart 36 = .ok (.lreturn, 1) := by decide +kernel
theorem dX5_allHaveAnswers_0 : decode cX5_allHaveAnswers 0 = .ok (.iconst 0, 1) := by decide +kernel
theorem dX5_allHaveAnswers_1 : decode cX5_allHaveAnswers 1 = .ok (.istore_n 1, 1) := by decide +kernel
theorem dX5_allHaveAnswers_2 : decode cX5_allHaveAnswers 2 = .ok (.iload_n 1, 1) := by decide +kernel
theorem dX5_allHaveAnswers_3 : decode cX5_allHaveAnswers 3 = .ok (.aload_n 0, 1) := by decide +kernel
theorem dX5_allHaveAnswers_4 : decode cX5_allHaveAnswers 4 = .ok (.getfield 10, 3) := by decide +kernel
theorem dX5_allHaveAnswers_7 : decode cX5_allHaveAnswers 7 = .ok (.getfield 36, 3) := by decide +kernel
theorem dX5_allHaveAnswers_10 : decode cX5_allHaveAnswers 10 = .ok (.invokevirtual 40, 3) := by decide +kernel
theorem dX5_allHaveAnswers_13 : decode cX5_allHaveAnswers 13 = .ok (.if_icmp .ge 50, 3) := by decide +kernel
theorem dX5_allHaveAnswers_16 : decode cX5_allHaveAnswers 16 = .ok (.aload_n 0, 1) := by decide +kernel
theorem dX5_allHaveAnswers_17 : decode cX5_allHaveAnswers 17 = .ok (.getfield 10, 3) := by decide +kernel
theorem dX5_allHaveAnswers_20 : decode cX5_allHaveAnswers 20 = .ok (.aload_n 0, 1) := by decide +kernel
theorem dX5_allHaveAnswers_21 : decode cX5_allHaveAnswers 21 = .ok (.getfield 10, 3) := by decide +kernel
theorem dX5_allHaveAnswers_24 : decode cX5_allHaveAnswers 24 = .ok (.getfield 36, 3) := by decide +kernel
theorem dX5_allHaveAnswers_27 : decode cX5_allHaveAnswers 27 = .ok (.iload_n 1, 1) := by decide +kernel
theorem dX5_allHaveAnswers_28 : decode cX5_allHaveAnswers 28 = .ok (.invokevirtual 144, 3) := by decide +kernel
theorem dX5_allHaveAnswers_31 : decode cX5_allHaveAnswers 31 = .ok (.checkcast 53, 3) := by decide +kernel
theorem dX5_allHaveAnswers_34 : decode cX5_allHaveAnswers 34 = .ok (.aload_n 0, 1) := by decide +kernel
theorem dX5_allHaveAnswers_35 : decode cX5_allHaveAnswers 35 = .ok (.getfield 26, 3) := by decide +kernel
theorem dX5_allHaveAnswers_38 : decode cX5_allHaveAnswers 38 = .ok (.invokevirtual 187, 3) := by decide +kernel
theorem dX5_allHaveAnswers_41 : decode cX5_allHaveAnswers 41 = .ok (.aload_n 0, 1) := by decide +kernel
theorem dX5_allHaveAnswers_42 : decode cX5_allHaveAnswers 42 = .ok (.getfield 26, 3) := by decide +kernel
theorem dX5_allHaveAnswers_45 : decode cX5_allHaveAnswers 45 = .ok (.getfield 111, 3) := by decide +kernel
theorem dX5_allHaveAnswers_48 : decode cX5_allHaveAnswers 48 = .ok (.ldc2_w 97, 3) := by decide +kernel
theorem dX5_allHaveAnswers_51 : decode cX5_allHaveAnswers 51 = .ok (.lcmp, 1) := by decide +kernel
theorem dX5_allHaveAnswers_52 : decode cX5_allHaveAnswers 52 = .ok (.ifCond .ne 5, 3) := by decide +kernel
theorem dX5_allHaveAnswers_55 : decode cX5_allHaveAnswers 55 = .ok (.iconst 0, 1) := by decide +kernel
theorem dX5_allHaveAnswers_56 : decode cX5_allHaveAnswers 56 = .ok (.ireturn, 1) := by decide +kernel
theorem dX5_allHaveAnswers_57 : decode cX5_allHaveAnswers 57 = .ok (.iinc 1 1, 3) := by decide +kernel
theorem dX5_allHaveAnswers_60 : decode cX5_allHaveAnswers 60 = .ok (.goto (-58), 3) := by decide +kernel
theorem dX5_allHaveAnswers_63 : decode cX5_allHaveAnswers 63 = .ok (.iconst 1, 1) := by decide +kernel
theorem dX5_allHaveAnswers_64 : decode cX5_allHaveAnswers 64 = .ok (.ireturn, 1) := by decide +kernel
theorem dX6_init_0 : decode cX6_init 0 = .ok (.aload_n 0, 1) := by decide +kernel
theorem dX6_init_1 : decode cX6_init 1 = .ok (.invokespecial 1, 3) := by decide +kernel
theorem dX6_init_4 : decode cX6_init 4 = .ok (.aload_n 0, 1) := by decide +kernel
theorem dX6_init_5 : decode cX6_init 5 = .ok (.bipush 17, 2) := by decide +kernel
theorem dX6_init_7 : decode cX6_init 7 = .ok (.newarray .long, 2) := by decide +kernel
theorem dX6_init_9 : decode cX6_init 9 = .ok (.putfield 7, 3) := by decide +kernel
theorem dX6_init_12 : decode cX6_init 12 = .ok (.aload_n 0, 1) := by decide +kernel
theorem dX6_init_13 : decode cX6_init 13 = .ok (.bipush 17, 2) := by decide +kernel
theorem dX6_init_15 : decode cX6_init 15 = .ok (.newarray .long, 2) := by decide +kernel
theorem dX6_init_17 : decode cX6_init 17 = .ok (.putfield 13, 3) := by decide +kernel
theorem dX6_init_20 : decode cX6_init 20 = .ok (.aload_n 0, 1) := by decide +kernel
theorem dX6_init_21 : decode cX6_init 21 = .ok (.bipush 17, 2) := by decide +kernel
theorem dX6_init_23 : decode cX6_init 23 = .ok (.newarray .int, 2) := by decide +kernel
theorem dX6_init_25 : decode cX6_init 25 = .ok (.putfield 16, 3) := by decide +kernel
theorem dX6_init_28 : decode cX6_init 28 = .ok (.aload_n 0, 1) := by decide +kernel
theorem dX6_init_29 : decode cX6_init 29 = .ok (.bipush 17, 2) := by decide +kernel
theorem dX6_init_31 : decode cX6_init 31 = .ok (.newarray .long, 2) := by decide +kernel
theorem dX6_init_33 : decode cX6_init 33 = .ok (.putfield 20, 3) := by decide +kernel
theorem dX6_init_36 : decode cX6_init 36 = .ok (.aload_n 0, 1) := by decide +kernel
theorem dX6_init_37 : decode cX6_init 37 = .ok (.bipush 17, 2) := by decide +kernel
theorem dX6_init_39 : decode cX6_init 39 = .ok (.newarray .int, 2) := by decide +kernel
theorem dX6_init_41 : decode cX6_init 41 = .ok (.putfield 23, 3) := by decide +kernel
theorem dX6_init_44 : decode cX6_init 44 = .ok (.aload_n 0, 1) := by decide +kernel
theorem dX6_init_45 : decode cX6_init 45 = .ok (.bipush 17, 2) := by decide +kernel
theorem dX6_init_47 : decode cX6_init 47 = .ok (.newarray .long, 2) := by decide +kernel
theorem dX6_init_49 : decode cX6_init 49 = .ok (.putfield 26, 3) := by decide +kernel
theorem dX6_init_52 : decode cX6_init 52 = .ok (.aload_n 0, 1) := by decide +kernel
theorem dX6_init_53 : decode cX6_init 53 = .ok (.bipush 17, 2) := by decide +kernel
theorem dX6_init_55 : decode cX6_init 55 = .ok (.newarray .long, 2) := by decide +kernel
theorem dX6_init_57 : decode cX6_init 57 = .ok (.putfield 29, 3) := by decide +kernel
theorem dX6_init_60 : decode cX6_init 60 = .ok (.aload_n 0, 1) := by decide +kernel
theorem dX6_init_61 : decode cX6_init 61 = .ok (.bipush 17, 2) := by decide +kernel
theorem dX6_init_63 : decode cX6_init 63 = .ok (.newarray .long, 2) := by decide +kernel
theorem dX6_init_65 : decode cX6_init 65 = .ok (.putfield 32, 3) := by decide +kernel
theorem dX6_init_68 : decode cX6_init 68 = .ok (.aload_n 0, 1) := by decide +kernel
theorem dX6_init_69 : decode cX6_init 69 = .ok (.bipush 17, 2) := by decide +kernel
theorem dX6_init_71 : decode cX6_init 71 = .ok (.newarray .int, 2) := by decide +kernel
theorem dX6_init_73 : decode cX6_init 73 = .ok (.putfield 35, 3) := by decide +kernel
theorem dX6_init_76 : decode cX6_init 76 = .ok (.aload_n 0, 1) := by decide +kernel
theorem dX6_init_77 : decode cX6_init 77 = .ok (.sipush 170, 3) := by decide +kernel
theorem dX6_init_80 : decode cX6_init 80 = .ok (.newarray .int, 2) := by decide +kernel
theorem dX6_init_82 : decode cX6_init 82 = .ok (.putfield 38, 3) := by decide +kernel
theorem dX6_init_85 : decode cX6_init 85 = .ok (.aload_n 0, 1) := by decide +kernel
theorem dX6_init_86 : decode cX6_init 86 = .ok (.sipush 170, 3) := by decide +kernel
theorem dX6_init_89 : decode cX6_init 89 = .ok (.newarray .long, 2) := by decide +kernel
theorem dX6_init_91 : decode cX6_init 91 = .ok (.putfield 41, 3) := by decide +kernel
theorem dX6_init_94 : decode cX6_init 94 = .ok (.aload_n 0, 1) := by decide +kernel
theorem dX6_init_95 : decode cX6_init 95 = .ok (.bipush 9, 2) := by decide +kernel
theorem dX6_init_97 : decode cX6_init 97 = .ok (.newarray .long, 2) := by decide +kernel
theorem dX6_init_99 : decode cX6_init 99 = .ok (.putfield 44, 3) := by decide +kernel
theorem dX6_init_102 : decode cX6_init 102 = .ok (.aload_n 0, 1) := by decide +kernel
theorem dX6_init_103 : decode cX6_init 103 = .ok (.bipush 9, 2) := by decide +kernel
theorem dX6_init_105 : decode cX6_init 105 = .ok (.newarray .long, 2) := by decide +kernel
theorem dX6_init_107 : decode cX6_init 107 = .ok (.putfield 47, 3) := by decide +kernel
theorem dX6_init_110 : decode cX6_init 110 = .ok (.aload_n 0, 1) := by decide +kernel
theorem dX6_init_111 : decode cX6_init 111 = .ok (.iconst 4, 1) := by decide +kernel
theorem dX6_init_112 : decode cX6_init 112 = .ok (.newarray .long, 2) := by decide +kernel
theorem dX6_init_114 : decode cX6_init 114 = .ok (.putfield 50, 3) := by decide +kernel
theorem dX6_init_117 : decode cX6_init 117 = .ok (.aload_n 0, 1) := by decide +kernel
theorem dX6_init_118 : decode cX6_init 118 = .ok (.iconst 4, 1) := by decide +kernel
theorem dX6_init_119 : decode cX6_init 119 = .ok (.newarray .long, 2) := by decide +kernel
theorem dX6_init_121 : decode cX6_init 121 = .ok (.putfield 53, 3) := by decide +kernel
theorem dX6_init_124 : decode cX6_init 124 = .ok (.aload_n 0, 1) := by decide +kernel
theorem dX6_init_125 : decode cX6_init 125 = .ok (.iconst 4, 1) := by decide +kernel
theorem dX6_init_126 : decode cX6_init 126 = .ok (.newarray .long, 2) := by decide +kernel
theorem dX6_init_128 : decode cX6_init 128 = .ok (.putfield 56, 3) := by decide +kernel
theorem dX6_init_131 : decode cX6_init 131 = .ok (.aload_n 0, 1) := by decide +kernel
theorem dX6_init_132 : decode cX6_init 132 = .ok (.iconst 4, 1) := by decide +kernel
theorem dX6_init_133 : decode cX6_init 133 = .ok (.newarray .boolean, 2) := by decide +kernel
theorem dX6_init_135 : decode cX6_init 135 = .ok (.putfield 59, 3) := by decide +kernel
theorem dX6_init_138 : decode cX6_init 138 = .ok (.return_, 1) := by decide +kernel
theorem dX6_thrown_0 : decode cX6_thrown 0 = .ok (.aload_n 0, 1) := by decide +kernel
theorem dX6_thrown_1 : decode cX6_thrown 1 = .ok (.getfield 63, 3) := by decide +kernel
theorem dX6_thrown_4 : decode cX6_thrown 4 = .ok (.ireturn, 1) := by decide +kernel
theorem dX6_isTask_0 : decode cX6_isTask 0 = .ok (.iload_n 1, 1) := by decide +kernel
theorem dX6_isTask_1 : decode cX6_isTask 1 = .ok (.iconst 1, 1) := by decide +kernel
theorem dX6_isTask_2 : decode cX6_isTask 2 = .ok (.if_icmp .lt 15, 3) := by decide +kernel
theorem dX6_isTask_5 : decode cX6_isTask 5 = .ok (.iload_n 1, 1) := by decide +kernel
theorem dX6_isTask_6 : decode cX6_isTask 6 = .ok (.aload_n 0, 1) := by decide +kernel
theorem dX6_isTask_7 : decode cX6_isTask 7 = .ok (.getfield 67, 3) := by decide +kernel
theorem dX6_isTask_10 : decode cX6_isTask 10 = .ok (.if_icmp .gt 7, 3) := by decide +kernel
theorem dX6_isTask_13 : decode cX6_isTask 13 = .ok (.iconst 1, 1) := by decide +kernel
theorem dX6_isTask_14 : decode cX6_isTask 14 = .ok (.goto 4, 3) := by decide +kernel
theorem dX6_isTask_17 : decode cX6_isTask 17 = .ok (.iconst 0, 1) := by decide +kernel
theorem dX6_isTask_18 : decode cX6_isTask 18 = .ok (.ireturn, 1) := by decide +kernel
theorem dX6_within_0 : decode cX6_within 0 = .ok (.lload_n 0, 1) := by decide +kernel
theorem dX6_within_1 : decode cX6_within 1 = .ok (.lload_n 2, 1) := by decide +kernel
theorem dX6_within_2 : decode cX6_within 2 = .ok (.lcmp, 1) := by decide +kernel
theorem dX6_within_3 : decode cX6_within 3 = .ok (.ifCond .lt 14, 3) := by decide +kernel
theorem dX6_within_6 : decode cX6_within 6 = .ok (.lload_n 0, 1) := by decide +kernel
theorem dX6_within_7 : decode cX6_within 7 = .ok (.lload 4, 2) := by decide +kernel
theorem dX6_within_9 : decode cX6_within 9 = .ok (.lcmp, 1) := by decide +kernel
theorem dX6_within_10 : decode cX6_within 10 = .ok (.ifCond .gt 7, 3) := by decide +kernel
theorem dX6_within_13 : decode cX6_within 13 = .ok (.iconst 1, 1) := by decide +kernel
theorem dX6_within_14 : decode cX6_within 14 = .ok (.goto 4, 3) := by decide +kernel
theorem dX6_within_17 : decode cX6_within 17 = .ok (.iconst 0, 1) := by decide +kernel
theorem dX6_within_18 : decode cX6_within 18 = .ok (.ireturn, 1) := by decide +kernel
theorem dX6_task_0 : decode cX6_task 0 = .ok (.aload_n 0, 1) := by decide +kernel
theorem dX6_task_1 : decode cX6_task 1 = .ok (.iconst 0, 1) := by decide +kernel
theorem dX6_task_2 : decode cX6_task 2 = .ok (.putfield 63, 3) := by decide +kernel
theorem dX6_task_5 : decode cX6_task 5 = .ok (.lload_n 1, 1) := by decide +kernel
theorem dX6_task_6 : decode cX6_task 6 = .ok (.lconst 1, 1) := by decide +kernel
theorem dX6_task_7 : decode cX6_task 7 = .ok (.ldc2_w 70, 3) := by decide +kernel
theorem dX6_task_10 : decode cX6_task 10 = .ok (.invokestatic 72, 3) := by decide +kernel
theorem dX6_task_13 : decode cX6_task 13 = .ok (.ifCond .eq 27, 3) := by decide +kernel
theorem dX6_task_16 : decode cX6_task 16 = .ok (.lload_n 3, 1) := by decide +kernel
theorem dX6_task_17 : decode cX6_task 17 = .ok (.lconst 0, 1) := by decide +kernel
theorem dX6_task_18 : decode cX6_task 18 = .ok (.ldc2_w 76, 3) := by decide +kernel
theorem dX6_task_21 : decode cX6_task 21 = .ok (.invokestatic 72, 3) := by decide +kernel
theorem dX6_task_24 : decode cX6_task 24 = .ok (.ifCond .eq 16, 3) := by decide +kernel
theorem dX6_task_27 : decode cX6_task 27 = .ok (.iload 5, 2) := by decide +kernel
theorem dX6_task_29 : decode cX6_task 29 = .ok (.i2l, 1) := by decide +kernel
theorem dX6_task_30 : decode cX6_task 30 = .ok (.lconst 0, 1) := by decide +kernel
theorem dX6_task_31 : decode cX6_task 31 = .ok (.ldc2_w 78, 3) := by decide +kernel
theorem dX6_task_34 : decode cX6_task 34 = .ok (.invokestatic 72, 3) := by decide +kernel
theorem dX6_task_37 : decode cX6_task 37 = .ok (.ifCond .ne 6, 3) := by decide +kernel
theorem dX6_task_40 : decode cX6_task 40 = .ok (.bipush (-2), 2) := by decide +kernel
theorem dX6_task_42 : decode cX6_task 42 = .ok (.ireturn, 1) := by decide +kernel
theorem dX6_task_43 : decode cX6_task 43 = .ok (.aload_n 0, 1) := by decide +kernel
theorem dX6_task_44 : decode cX6_task 44 = .ok (.getfield 67, 3) := by decide +kernel
theorem dX6_task_47 : decode cX6_task 47 = .ok (.bipush 16, 2) := by decide +kernel
theorem dX6_task_49 : decode cX6_task 49 = .ok (.if_icmp .ne 6, 3) := by decide +kernel
theorem dX6_task_52 : decode cX6_task 52 = .ok (.bipush (-4), 2) := by decide +kernel
theorem dX6_task_54 : decode cX6_task 54 = .ok (.ireturn, 1) := by decide +kernel
theorem dX6_task_55 : decode cX6_task 55 = .ok (.lload_n 3, 1) := by decide +kernel
theorem dX6_task_56 : decode cX6_task 56 = .ok (.lconst 0, 1) := by decide +kernel
theorem dX6_task_57 : decode cX6_task 57 = .ok (.lcmp, 1) := by decide +kernel
theorem dX6_task_58 : decode cX6_task 58 = .ok (.ifCond .ne 10, 3) := by decide +kernel
theorem dX6_task_61 : decode cX6_task 61 = .ok (.aload_n 0, 1) := by decide +kernel
theorem dX6_task_62 : decode cX6_task 62 = .ok (.iconst 1, 1) := by decide +kernel
theorem dX6_task_63 : decode cX6_task 63 = .ok (.putfield 63, 3) := by decide +kernel
theorem dX6_task_66 : decode cX6_task 66 = .ok (.iconst 0, 1) := by decide +kernel
theorem dX6_task_67 : decode cX6_task 67 = .ok (.ireturn, 1) := by decide +kernel
theorem dX6_task_68 : decode cX6_task 68 = .ok (.aload_n 0, 1) := by decide +kernel
theorem dX6_task_69 : decode cX6_task 69 = .ok (.dup, 1) := by decide +kernel
theorem dX6_task_70 : decode cX6_task 70 = .ok (.getfield 67, 3) := by decide +kernel
theorem dX6_task_73 : decode cX6_task 73 = .ok (.iconst 1, 1) := by decide +kernel
theorem dX6_task_74 : decode cX6_task 74 = .ok (.iadd, 1) := by decide +kernel
theorem dX6_task_75 : decode cX6_task 75 = .ok (.putfield 67, 3) := by decide +kernel
theorem dX6_task_78 : decode cX6_task 78 = .ok (.aload_n 0, 1) := by decide +kernel
theorem dX6_task_79 : decode cX6_task 79 = .ok (.getfield 7, 3) := by decide +kernel
theorem dX6_task_82 : decode cX6_task 82 = .ok (.aload_n 0, 1) := by decide +kernel
theorem dX6_task_83 : decode cX6_task 83 = .ok (.getfield 67, 3) := by decide +kernel
theorem dX6_task_86 : decode cX6_task 86 = .ok (.lload_n 1, 1) := by decide +kernel
theorem dX6_task_87 : decode cX6_task 87 = .ok (.lastore, 1) := by decide +kernel
theorem dX6_task_88 : decode cX6_task 88 = .ok (.aload_n 0, 1) := by decide +kernel
theorem dX6_task_89 : decode cX6_task 89 = .ok (.getfield 13, 3) := by decide +kernel
theorem dX6_task_92 : decode cX6_task 92 = .ok (.aload_n 0, 1) := by decide +kernel
theorem dX6_task_93 : decode cX6_task 93 = .ok (.getfield 67, 3) := by decide +kernel
theorem dX6_task_96 : decode cX6_task 96 = .ok (.lload_n 3, 1) := by decide +kernel
theorem dX6_task_97 : decode cX6_task 97 = .ok (.lastore, 1) := by decide +kernel
theorem dX6_task_98 : decode cX6_task 98 = .ok (.aload_n 0, 1) := by decide +kernel
theorem dX6_task_99 : decode cX6_task 99 = .ok (.getfield 16, 3) := by decide +kernel
theorem dX6_task_102 : decode cX6_task 102 = .ok (.aload_n 0, 1) := by decide +kernel
theorem dX6_task_103 : decode cX6_task 103 = .ok (.getfield 67, 3) := by decide +kernel
theorem dX6_task_106 : decode cX6_task 106 = .ok (.iload 5, 2) := by decide +kernel
theorem dX6_task_108 : decode cX6_task 108 = .ok (.iastore, 1) := by decide +kernel
theorem dX6_task_109 : decode cX6_task 109 = .ok (.aload_n 0, 1) := by decide +kernel
theorem dX6_task_110 : decode cX6_task 110 = .ok (.getfield 20, 3) := by decide +kernel
theorem dX6_task_113 : decode cX6_task 113 = .ok (.aload_n 0, 1) := by decide +kernel
theorem dX6_task_114 : decode cX6_task 114 = .ok (.getfield 67, 3) := by decide +kernel
theorem dX6_task_117 : decode cX6_task 117 = .ok (.lconst 0, 1) := by decide +kernel
theorem dX6_task_118 : decode cX6_task 118 = .ok (.lastore, 1) := by decide +kernel
theorem dX6_task_119 : decode cX6_task 119 = .ok (.aload_n 0, 1) := by decide +kernel
theorem dX6_task_120 : decode cX6_task 120 = .ok (.getfield 23, 3) := by decide +kernel
theorem dX6_task_123 : decode cX6_task 123 = .ok (.aload_n 0, 1) := by decide +kernel
theorem dX6_task_124 : decode cX6_task 124 = .ok (.getfield 67, 3) := by decide +kernel
theorem dX6_task_127 : decode cX6_task 127 = .ok (.iconst 1, 1) := by decide +kernel
theorem dX6_task_128 : decode cX6_task 128 = .ok (.iastore, 1) := by decide +kernel
theorem dX6_task_129 : decode cX6_task 129 = .ok (.aload_n 0, 1) := by decide +kernel
theorem dX6_task_130 : decode cX6_task 130 = .ok (.getfield 26, 3) := by decide +kernel
theorem dX6_task_133 : decode cX6_task 133 = .ok (.aload_n 0, 1) := by decide +kernel
theorem dX6_task_134 : decode cX6_task 134 = .ok (.getfield 67, 3) := by decide +kernel
theorem dX6_task_137 : decode cX6_task 137 = .ok (.lconst 1, 1) := by decide +kernel
theorem dX6_task_138 : decode cX6_task 138 = .ok (.lastore, 1) := by decide +kernel
theorem dX6_task_139 : decode cX6_task 139 = .ok (.aload_n 0, 1) := by decide +kernel
theorem dX6_task_140 : decode cX6_task 140 = .ok (.getfield 29, 3) := by decide +kernel
theorem dX6_task_143 : decode cX6_task 143 = .ok (.aload_n 0, 1) := by decide +kernel
theorem dX6_task_144 : decode cX6_task 144 = .ok (.getfield 67, 3) := by decide +kernel
theorem dX6_task_147 : decode cX6_task 147 = .ok (.lconst 0, 1) := by decide +kernel
theorem dX6_task_148 : decode cX6_task 148 = .ok (.lastore, 1) := by decide +kernel
theorem dX6_task_149 : decode cX6_task 149 = .ok (.aload_n 0, 1) := by decide +kernel
theorem dX6_task_150 : decode cX6_task 150 = .ok (.getfield 32, 3) := by decide +kernel
theorem dX6_task_153 : decode cX6_task 153 = .ok (.aload_n 0, 1) := by decide +kernel
theorem dX6_task_154 : decode cX6_task 154 = .ok (.getfield 67, 3) := by decide +kernel
theorem dX6_task_157 : decode cX6_task 157 = .ok (.ldc2_w 80, 3) := by decide +kernel
theorem dX6_task_160 : decode cX6_task 160 = .ok (.lastore, 1) := by decide +kernel
theorem dX6_task_161 : decode cX6_task 161 = .ok (.aload_n 0, 1) := by decide +kernel
theorem dX6_task_162 : decode cX6_task 162 = .ok (.getfield 35, 3) := by decide +kernel
theorem dX6_task_165 : decode cX6_task 165 = .ok (.aload_n 0, 1) := by decide +kernel
theorem dX6_task_166 : decode cX6_task 166 = .ok (.getfield 67, 3) := by decide +kernel
theorem dX6_task_169 : decode cX6_task 169 = .ok (.iconst 0, 1) := by decide +kernel
theorem dX6_task_170 : decode cX6_task 170 = .ok (.iastore, 1) := by decide +kernel
theorem dX6_task_171 : decode cX6_task 171 = .ok (.aload_n 0, 1) := by decide +kernel
theorem dX6_task_172 : decode cX6_task 172 = .ok (.getfield 67, 3) := by decide +kernel
theorem dX6_task_175 : decode cX6_task 175 = .ok (.ireturn, 1) := by decide +kernel
theorem dX6_jitter_0 : decode cX6_jitter 0 = .ok (.aload_n 0, 1) := by decide +kernel
theorem dX6_jitter_1 : decode cX6_jitter 1 = .ok (.iconst 0, 1) := by decide +kernel
theorem dX6_jitter_2 : decode cX6_jitter 2 = .ok (.putfield 63, 3) := by decide +kernel
theorem dX6_jitter_5 : decode cX6_jitter 5 = .ok (.aload_n 0, 1) := by decide +kernel
theorem dX6_jitter_6 : decode cX6_jitter 6 = .ok (.iload_n 1, 1) := by decide +kernel
theorem dX6_jitter_7 : decode cX6_jitter 7 = .ok (.invokevirtual 82, 3) := by decide +kernel
theorem dX6_jitter_10 : decode cX6_jitter 10 = .ok (.ifCond .ne 5, 3) := by decide +kernel
theorem dX6_jitter_13 : decode cX6_jitter 13 = .ok (.iconst (-1), 1) := by decide +kernel
theorem dX6_jitter_14 : decode cX6_jitter 14 = .ok (.ireturn, 1) := by decide +kernel
theorem dX6_jitter_15 : decode cX6_jitter 15 = .ok (.lload_n 2, 1) := by decide +kernel
theorem dX6_jitter_16 : decode cX6_jitter 16 = .ok (.lconst 0, 1) := by decide +kernel
theorem dX6_jitter_17 : decode cX6_jitter 17 = .ok (.ldc2_w 76, 3) := by decide +kernel
theorem dX6_jitter_20 : decode cX6_jitter 20 = .ok (.invokestatic 72, 3) := by decide +kernel
theorem dX6_jitter_23 : decode cX6_jitter 23 = .ok (.ifCond .ne 6, 3) := by decide +kernel
theorem dX6_jitter_26 : decode cX6_jitter 26 = .ok (.bipush (-2), 2) := by decide +kernel
theorem dX6_jitter_28 : decode cX6_jitter 28 = .ok (.ireturn, 1) := by decide +kernel
theorem dX6_jitter_29 : decode cX6_jitter 29 = .ok (.aload_n 0, 1) := by decide +kernel
theorem dX6_jitter_30 : decode cX6_jitter 30 = .ok (.getfield 20, 3) := by decide +kernel
theorem dX6_jitter_33 : decode cX6_jitter 33 = .ok (.iload_n 1, 1) := by decide +kernel
theorem dX6_jitter_34 : decode cX6_jitter 34 = .ok (.lload_n 2, 1) := by decide +kernel
theorem dX6_jitter_35 : decode cX6_jitter 35 = .ok (.lastore, 1) := by decide +kernel
theorem dX6_jitter_36 : decode cX6_jitter 36 = .ok (.iconst 1, 1) := by decide +kernel
theorem dX6_jitter_37 : decode cX6_jitter 37 = .ok (.ireturn, 1) := by decide +kernel
theorem dX6_burst_0 : decode cX6_burst 0 = .ok (.aload_n 0, 1) := by decide +kernel
theorem dX6_burst_1 : decode cX6_burst 1 = .ok (.iconst 0, 1) := by decide +kernel
theorem dX6_burst_2 : decode cX6_burst 2 = .ok (.putfield 63, 3) := by decide +kernel
theorem dX6_burst_5 : decode cX6_burst 5 = .ok (.aload_n 0, 1) := by decide +kernel
theorem dX6_burst_6 : decode cX6_burst 6 = .ok (.iload_n 1, 1) := by decide +kernel
theorem dX6_burst_7 : decode cX6_burst 7 = .ok (.invokevirtual 82, 3) := by decide +kernel
theorem dX6_burst_10 : decode cX6_burst 10 = .ok (.ifCond .ne 5, 3) := by decide +kernel
theorem dX6_burst_13 : decode cX6_burst 13 = .ok (.iconst (-1), 1) := by decide +kernel
theorem dX6_burst_14 : decode cX6_burst 14 = .ok (.ireturn, 1) := by decide +kernel
theorem dX6_burst_15 : decode cX6_burst 15 = .ok (.iload_n 2, 1) := by decide +kernel
theorem dX6_burst_16 : decode cX6_burst 16 = .ok (.i2l, 1) := by decide +kernel
theorem dX6_burst_17 : decode cX6_burst 17 = .ok (.lconst 1, 1) := by decide +kernel
theorem dX6_burst_18 : decode cX6_burst 18 = .ok (.ldc2_w 86, 3) := by decide +kernel
theorem dX6_burst_21 : decode cX6_burst 21 = .ok (.invokestatic 72, 3) := by decide +kernel
theorem dX6_burst_24 : decode cX6_burst 24 = .ok (.ifCond .eq 14, 3) := by decide +kernel
theorem dX6_burst_27 : decode cX6_burst 27 = .ok (.lload_n 3, 1) := by decide +kernel
theorem dX6_burst_28 : decode cX6_burst 28 = .ok (.lconst 1, 1) := by decide +kernel
theorem dX6_burst_29 : decode cX6_burst 29 = .ok (.ldc2_w 76, 3) := by decide +kernel
theorem dX6_burst_32 : decode cX6_burst 32 = .ok (.invokestatic 72, 3) := by decide +kernel
theorem dX6_burst_35 : decode cX6_burst 35 = .ok (.ifCond .ne 6, 3) := by decide +kernel
theorem dX6_burst_38 : decode cX6_burst 38 = .ok (.bipush (-2), 2) := by decide +kernel
theorem dX6_burst_40 : decode cX6_burst 40 = .ok (.ireturn, 1) := by decide +kernel
theorem dX6_burst_41 : decode cX6_burst 41 = .ok (.aload_n 0, 1) := by decide +kernel
theorem dX6_burst_42 : decode cX6_burst 42 = .ok (.getfield 23, 3) := by decide +kernel
theorem dX6_burst_45 : decode cX6_burst 45 = .ok (.iload_n 1, 1) := by decide +kernel
theorem dX6_burst_46 : decode cX6_burst 46 = .ok (.iload_n 2, 1) := by decide +kernel
theorem dX6_burst_47 : decode cX6_burst 47 = .ok (.iastore, 1) := by decide +kernel
theorem dX6_burst_48 : decode cX6_burst 48 = .ok (.aload_n 0, 1) := by decide +kernel
theorem dX6_burst_49 : decode cX6_burst 49 = .ok (.getfield 26, 3) := by decide +kernel
theorem dX6_burst_52 : decode cX6_burst 52 = .ok (.iload_n 1, 1) := by decide +kernel
theorem dX6_burst_53 : decode cX6_burst 53 = .ok (.lload_n 3, 1) := by decide +kernel
theorem dX6_burst_54 : decode cX6_burst 54 = .ok (.lastore, 1) := by decide +kernel
theorem dX6_burst_55 : decode cX6_burst 55 = .ok (.iconst 1, 1) := by decide +kernel
theorem dX6_burst_56 : decode cX6_burst 56 = .ok (.ireturn, 1) := by decide +kernel
theorem dX6_section_0 : decode cX6_section 0 = .ok (.aload_n 0, 1) := by decide +kernel
theorem dX6_section_1 : decode cX6_section 1 = .ok (.iconst 0, 1) := by decide +kernel
theorem dX6_section_2 : decode cX6_section 2 = .ok (.putfield 63, 3) := by decide +kernel
theorem dX6_section_5 : decode cX6_section 5 = .ok (.aload_n 0, 1) := by decide +kernel
theorem dX6_section_6 : decode cX6_section 6 = .ok (.iload_n 1, 1) := by decide +kernel
theorem dX6_section_7 : decode cX6_section 7 = .ok (.invokevirtual 82, 3) := by decide +kernel
theorem dX6_section_10 : decode cX6_section 10 = .ok (.ifCond .ne 5, 3) := by decide +kernel
theorem dX6_section_13 : decode cX6_section 13 = .ok (.iconst (-1), 1) := by decide +kernel
theorem dX6_section_14 : decode cX6_section 14 = .ok (.ireturn, 1) := by decide +kernel
theorem dX6_section_15 : decode cX6_section 15 = .ok (.iload_n 2, 1) := by decide +kernel
theorem dX6_section_16 : decode cX6_section 16 = .ok (.i2l, 1) := by decide +kernel
theorem dX6_section_17 : decode cX6_section 17 = .ok (.lconst 1, 1) := by decide +kernel
theorem dX6_section_18 : decode cX6_section 18 = .ok (.ldc2_w 88, 3) := by decide +kernel
theorem dX6_section_21 : decode cX6_section 21 = .ok (.invokestatic 72, 3) := by decide +kernel
theorem dX6_section_24 : decode cX6_section 24 = .ok (.ifCond .eq 14, 3) := by decide +kernel
theorem dX6_section_27 : decode cX6_section 27 = .ok (.lload_n 3, 1) := by decide +kernel
theorem dX6_section_28 : decode cX6_section 28 = .ok (.lconst 1, 1) := by decide +kernel
theorem dX6_section_29 : decode cX6_section 29 = .ok (.ldc2_w 70, 3) := by decide +kernel
theorem dX6_section_32 : decode cX6_section 32 = .ok (.invokestatic 72, 3) := by decide +kernel
theorem dX6_section_35 : decode cX6_section 35 = .ok (.ifCond .ne 6, 3) := by decide +kernel
theorem dX6_section_38 : decode cX6_section 38 = .ok (.bipush (-2), 2) := by decide +kernel
theorem dX6_section_40 : decode cX6_section 40 = .ok (.ireturn, 1) := by decide +kernel
theorem dX6_section_41 : decode cX6_section 41 = .ok (.aload_n 0, 1) := by decide +kernel
theorem dX6_section_42 : decode cX6_section 42 = .ok (.getfield 35, 3) := by decide +kernel
theorem dX6_section_45 : decode cX6_section 45 = .ok (.iload_n 1, 1) := by decide +kernel
theorem dX6_section_46 : decode cX6_section 46 = .ok (.iaload, 1) := by decide +kernel
theorem dX6_section_47 : decode cX6_section 47 = .ok (.bipush 10, 2) := by decide +kernel
theorem dX6_section_49 : decode cX6_section 49 = .ok (.if_icmp .ne 6, 3) := by decide +kernel
theorem dX6_section_52 : decode cX6_section 52 = .ok (.bipush (-4), 2) := by decide +kernel
theorem dX6_section_54 : decode cX6_section 54 = .ok (.ireturn, 1) := by decide +kernel
theorem dX6_section_55 : decode cX6_section 55 = .ok (.aload_n 0, 1) := by decide +kernel
theorem dX6_section_56 : decode cX6_section 56 = .ok (.getfield 38, 3) := by decide +kernel
theorem dX6_section_59 : decode cX6_section 59 = .ok (.bipush 10, 2) := by decide +kernel
theorem dX6_section_61 : decode cX6_section 61 = .ok (.iload_n 1, 1) := by decide +kernel
theorem dX6_section_62 : decode cX6_section 62 = .ok (.imul, 1) := by decide +kernel
theorem dX6_section_63 : decode cX6_section 63 = .ok (.bipush 10, 2) := by decide +kernel
theorem dX6_section_65 : decode cX6_section 65 = .ok (.isub, 1) := by decide +kernel
theorem dX6_section_66 : decode cX6_section 66 = .ok (.aload_n 0, 1) := by decide +kernel
theorem dX6_section_67 : decode cX6_section 67 = .ok (.getfield 35, 3) := by decide +kernel
theorem dX6_section_70 : decode cX6_section 70 = .ok (.iload_n 1, 1) := by decide +kernel
theorem dX6_section_71 : decode cX6_section 71 = .ok (.iaload, 1) := by decide +kernel
theorem dX6_section_72 : decode cX6_section 72 = .ok (.iadd, 1) := by decide +kernel
theorem dX6_section_73 : decode cX6_section 73 = .ok (.iload_n 2, 1) := by decide +kernel
theorem dX6_section_74 : decode cX6_section 74 = .ok (.iastore, 1) := by decide +kernel
theorem dX6_section_75 : decode cX6_section 75 = .ok (.aload_n 0, 1) := by decide +kernel
theorem dX6_section_76 : decode cX6_section 76 = .ok (.getfield 41, 3) := by decide +kernel
theorem dX6_section_79 : decode cX6_section 79 = .ok (.bipush 10, 2) := by decide +kernel
theorem dX6_section_81 : decode cX6_section 81 = .ok (.iload_n 1, 1) := by decide +kernel
theorem dX6_section_82 : decode cX6_section 82 = .ok (.imul, 1) := by decide +kernel
theorem dX6_section_83 : decode cX6_section 83 = .ok (.bipush 10, 2) := by decide +kernel
theorem dX6_section_85 : decode cX6_section 85 = .ok (.isub, 1) := by decide +kernel
theorem dX6_section_86 : decode cX6_section 86 = .ok (.aload_n 0, 1) := by decide +kernel
theorem dX6_section_87 : decode cX6_section 87 = .ok (.getfield 35, 3) := by decide +kernel
theorem dX6_section_90 : decode cX6_section 90 = .ok (.iload_n 1, 1) := by decide +kernel
theorem dX6_section_91 : decode cX6_section 91 = .ok (.iaload, 1) := by decide +kernel
theorem dX6_section_92 : decode cX6_section 92 = .ok (.iadd, 1) := by decide +kernel
theorem dX6_section_93 : decode cX6_section 93 = .ok (.lload_n 3, 1) := by decide +kernel
theorem dX6_section_94 : decode cX6_section 94 = .ok (.lastore, 1) := by decide +kernel
theorem dX6_section_95 : decode cX6_section 95 = .ok (.aload_n 0, 1) := by decide +kernel
theorem dX6_section_96 : decode cX6_section 96 = .ok (.getfield 35, 3) := by decide +kernel
theorem dX6_section_99 : decode cX6_section 99 = .ok (.iload_n 1, 1) := by decide +kernel
theorem dX6_section_100 : decode cX6_section 100 = .ok (.dup2, 1) := by decide +kernel
theorem dX6_section_101 : decode cX6_section 101 = .ok (.iaload, 1) := by decide +kernel
theorem dX6_section_102 : decode cX6_section 102 = .ok (.iconst 1, 1) := by decide +kernel
theorem dX6_section_103 : decode cX6_section 103 = .ok (.iadd, 1) := by decide +kernel
theorem dX6_section_104 : decode cX6_section 104 = .ok (.iastore, 1) := by decide +kernel
theorem dX6_section_105 : decode cX6_section 105 = .ok (.aload_n 0, 1) := by decide +kernel
theorem dX6_section_106 : decode cX6_section 106 = .ok (.getfield 35, 3) := by decide +kernel
theorem dX6_section_109 : decode cX6_section 109 = .ok (.iload_n 1, 1) := by decide +kernel
theorem dX6_section_110 : decode cX6_section 110 = .ok (.iaload, 1) := by decide +kernel
theorem dX6_section_111 : decode cX6_section 111 = .ok (.ireturn, 1) := by decide +kernel
theorem dX6_offset_0 : decode cX6_offset 0 = .ok (.aload_n 0, 1) := by decide +kernel
theorem dX6_offset_1 : decode cX6_offset 1 = .ok (.iconst 0, 1) := by decide +kernel
theorem dX6_offset_2 : decode cX6_offset 2 = .ok (.putfield 63, 3) := by decide +kernel
theorem dX6_offset_5 : decode cX6_offset 5 = .ok (.aload_n 0, 1) := by decide +kernel
theorem dX6_offset_6 : decode cX6_offset 6 = .ok (.iload_n 1, 1) := by decide +kernel
theorem dX6_offset_7 : decode cX6_offset 7 = .ok (.invokevirtual 82, 3) := by decide +kernel
theorem dX6_offset_10 : decode cX6_offset 10 = .ok (.ifCond .ne 5, 3) := by decide +kernel
theorem dX6_offset_13 : decode cX6_offset 13 = .ok (.iconst (-1), 1) := by decide +kernel
theorem dX6_offset_14 : decode cX6_offset 14 = .ok (.ireturn, 1) := by decide +kernel
theorem dX6_offset_15 : decode cX6_offset 15 = .ok (.lload_n 2, 1) := by decide +kernel
theorem dX6_offset_16 : decode cX6_offset 16 = .ok (.ldc2_w 80, 3) := by decide +kernel
theorem dX6_offset_19 : decode cX6_offset 19 = .ok (.aload_n 0, 1) := by decide +kernel
theorem dX6_offset_20 : decode cX6_offset 20 = .ok (.getfield 13, 3) := by decide +kernel
theorem dX6_offset_23 : decode cX6_offset 23 = .ok (.iload_n 1, 1) := by decide +kernel
theorem dX6_offset_24 : decode cX6_offset 24 = .ok (.laload, 1) := by decide +kernel
theorem dX6_offset_25 : decode cX6_offset 25 = .ok (.lconst 1, 1) := by decide +kernel
theorem dX6_offset_26 : decode cX6_offset 26 = .ok (.lsub, 1) := by decide +kernel
theorem dX6_offset_27 : decode cX6_offset 27 = .ok (.invokestatic 72, 3) := by decide +kernel
theorem dX6_offset_30 : decode cX6_offset 30 = .ok (.ifCond .ne 6, 3) := by decide +kernel
theorem dX6_offset_33 : decode cX6_offset 33 = .ok (.bipush (-2), 2) := by decide +kernel
theorem dX6_offset_35 : decode cX6_offset 35 = .ok (.ireturn, 1) := by decide +kernel
theorem dX6_offset_36 : decode cX6_offset 36 = .ok (.aload_n 0, 1) := by decide +kernel
theorem dX6_offset_37 : decode cX6_offset 37 = .ok (.getfield 32, 3) := by decide +kernel
theorem dX6_offset_40 : decode cX6_offset 40 = .ok (.iload_n 1, 1) := by decide +kernel
theorem dX6_offset_41 : decode cX6_offset 41 = .ok (.lload_n 2, 1) := by decide +kernel
theorem dX6_offset_42 : decode cX6_offset 42 = .ok (.lastore, 1) := by decide +kernel
theorem dX6_offset_43 : decode cX6_offset 43 = .ok (.iconst 1, 1) := by decide +kernel
theorem dX6_offset_44 : decode cX6_offset 44 = .ok (.ireturn, 1) := by decide +kernel
theorem dX6_interrupt_0 : decode cX6_interrupt 0 = .ok (.aload_n 0, 1) := by decide +kernel
theorem dX6_interrupt_1 : decode cX6_interrupt 1 = .ok (.iconst 0, 1) := by decide +kernel
theorem dX6_interrupt_2 : decode cX6_interrupt 2 = .ok (.putfield 63, 3) := by decide +kernel
theorem dX6_interrupt_5 : decode cX6_interrupt 5 = .ok (.lload_n 1, 1) := by decide +kernel
theorem dX6_interrupt_6 : decode cX6_interrupt 6 = .ok (.lconst 1, 1) := by decide +kernel
theorem dX6_interrupt_7 : decode cX6_interrupt 7 = .ok (.ldc2_w 70, 3) := by decide +kernel
theorem dX6_interrupt_10 : decode cX6_interrupt 10 = .ok (.invokestatic 72, 3) := by decide +kernel
theorem dX6_interrupt_13 : decode cX6_interrupt 13 = .ok (.ifCond .eq 14, 3) := by decide +kernel
theorem dX6_interrupt_16 : decode cX6_interrupt 16 = .ok (.lload_n 3, 1) := by decide +kernel
theorem dX6_interrupt_17 : decode cX6_interrupt 17 = .ok (.lconst 1, 1) := by decide +kernel
theorem dX6_interrupt_18 : decode cX6_interrupt 18 = .ok (.ldc2_w 76, 3) := by decide +kernel
theorem dX6_interrupt_21 : decode cX6_interrupt 21 = .ok (.invokestatic 72, 3) := by decide +kernel
theorem dX6_interrupt_24 : decode cX6_interrupt 24 = .ok (.ifCond .ne 6, 3) := by decide +kernel
theorem dX6_interrupt_27 : decode cX6_interrupt 27 = .ok (.bipush (-2), 2) := by decide +kernel
theorem dX6_interrupt_29 : decode cX6_interrupt 29 = .ok (.ireturn, 1) := by decide +kernel
theorem dX6_interrupt_30 : decode cX6_interrupt 30 = .ok (.aload_n 0, 1) := by decide +kernel
theorem dX6_interrupt_31 : decode cX6_interrupt 31 = .ok (.getfield 90, 3) := by decide +kernel
theorem dX6_interrupt_34 : decode cX6_interrupt 34 = .ok (.bipush 8, 2) := by decide +kernel
theorem dX6_interrupt_36 : decode cX6_interrupt 36 = .ok (.if_icmp .ne 6, 3) := by decide +kernel
theorem dX6_interrupt_39 : decode cX6_interrupt 39 = .ok (.bipush (-4), 2) := by decide +kernel
theorem dX6_interrupt_41 : decode cX6_interrupt 41 = .ok (.ireturn, 1) := by decide +kernel
theorem dX6_interrupt_42 : decode cX6_interrupt 42 = .ok (.aload_n 0, 1) := by decide +kernel
theorem dX6_interrupt_43 : decode cX6_interrupt 43 = .ok (.dup, 1) := by decide +kernel
theorem dX6_interrupt_44 : decode cX6_interrupt 44 = .ok (.getfield 90, 3) := by decide +kernel
theorem dX6_interrupt_47 : decode cX6_interrupt 47 = .ok (.iconst 1, 1) := by decide +kernel
theorem dX6_interrupt_48 : decode cX6_interrupt 48 = .ok (.iadd, 1) := by decide +kernel
theorem dX6_interrupt_49 : decode cX6_interrupt 49 = .ok (.putfield 90, 3) := by decide +kernel
theorem dX6_interrupt_52 : decode cX6_interrupt 52 = .ok (.aload_n 0, 1) := by decide +kernel
theorem dX6_interrupt_53 : decode cX6_interrupt 53 = .ok (.getfield 44, 3) := by decide +kernel
theorem dX6_interrupt_56 : decode cX6_interrupt 56 = .ok (.aload_n 0, 1) := by decide +kernel
theorem dX6_interrupt_57 : decode cX6_interrupt 57 = .ok (.getfield 90, 3) := by decide +kernel
theorem dX6_interrupt_60 : decode cX6_interrupt 60 = .ok (.lload_n 1, 1) := by decide +kernel
theorem dX6_interrupt_61 : decode cX6_interrupt 61 = .ok (.lastore, 1) := by decide +kernel
theorem dX6_interrupt_62 : decode cX6_interrupt 62 = .ok (.aload_n 0, 1) := by decide +kernel
theorem dX6_interrupt_63 : decode cX6_interrupt 63 = .ok (.getfield 47, 3) := by decide +kernel
theorem dX6_interrupt_66 : decode cX6_interrupt 66 = .ok (.aload_n 0, 1) := by decide +kernel
theorem dX6_interrupt_67 : decode cX6_interrupt 67 = .ok (.getfield 90, 3) := by decide +kernel
theorem dX6_interrupt_70 : decode cX6_interrupt 70 = .ok (.lload_n 3, 1) := by decide +kernel
theorem dX6_interrupt_71 : decode cX6_interrupt 71 = .ok (.lastore, 1) := by decide +kernel
theorem dX6_interrupt_72 : decode cX6_interrupt 72 = .ok (.aload_n 0, 1) := by decide +kernel
theorem dX6_interrupt_73 : decode cX6_interrupt 73 = .ok (.getfield 90, 3) := by decide +kernel
theorem dX6_interrupt_76 : decode cX6_interrupt 76 = .ok (.ireturn, 1) := by decide +kernel
theorem dX6_spin_0 : decode cX6_spin 0 = .ok (.aload_n 0, 1) := by decide +kernel
theorem dX6_spin_1 : decode cX6_spin 1 = .ok (.iconst 0, 1) := by decide +kernel
theorem dX6_spin_2 : decode cX6_spin 2 = .ok (.putfield 63, 3) := by decide +kernel
theorem dX6_spin_5 : decode cX6_spin 5 = .ok (.aload_n 0, 1) := by decide +kernel
theorem dX6_spin_6 : decode cX6_spin 6 = .ok (.iload_n 1, 1) := by decide +kernel
theorem dX6_spin_7 : decode cX6_spin 7 = .ok (.invokevirtual 82, 3) := by decide +kernel
theorem dX6_spin_10 : decode cX6_spin 10 = .ok (.ifCond .ne 5, 3) := by decide +kernel
theorem dX6_spin_13 : decode cX6_spin 13 = .ok (.iconst (-1), 1) := by decide +kernel
theorem dX6_spin_14 : decode cX6_spin 14 = .ok (.ireturn, 1) := by decide +kernel
theorem dX6_spin_15 : decode cX6_spin 15 = .ok (.lload_n 2, 1) := by decide +kernel
theorem dX6_spin_16 : decode cX6_spin 16 = .ok (.lconst 0, 1) := by decide +kernel
theorem dX6_spin_17 : decode cX6_spin 17 = .ok (.ldc2_w 70, 3) := by decide +kernel
theorem dX6_spin_20 : decode cX6_spin 20 = .ok (.invokestatic 72, 3) := by decide +kernel
theorem dX6_spin_23 : decode cX6_spin 23 = .ok (.ifCond .ne 6, 3) := by decide +kernel
theorem dX6_spin_26 : decode cX6_spin 26 = .ok (.bipush (-2), 2) := by decide +kernel
theorem dX6_spin_28 : decode cX6_spin 28 = .ok (.ireturn, 1) := by decide +kernel
theorem dX6_spin_29 : decode cX6_spin 29 = .ok (.aload_n 0, 1) := by decide +kernel
theorem dX6_spin_30 : decode cX6_spin 30 = .ok (.getfield 29, 3) := by decide +kernel
theorem dX6_spin_33 : decode cX6_spin 33 = .ok (.iload_n 1, 1) := by decide +kernel
theorem dX6_spin_34 : decode cX6_spin 34 = .ok (.lload_n 2, 1) := by decide +kernel
theorem dX6_spin_35 : decode cX6_spin 35 = .ok (.lastore, 1) := by decide +kernel
theorem dX6_spin_36 : decode cX6_spin 36 = .ok (.iconst 1, 1) := by decide +kernel
theorem dX6_spin_37 : decode cX6_spin 37 = .ok (.ireturn, 1) := by decide +kernel
theorem dX6_upwards_0 : decode cX6_upwards 0 = .ok (.lload_n 0, 1) := by decide +kernel
theorem dX6_upwards_1 : decode cX6_upwards 1 = .ok (.lload_n 2, 1) := by decide +kernel
theorem dX6_upwards_2 : decode cX6_upwards 2 = .ok (.lrem, 1) := by decide +kernel
theorem dX6_upwards_3 : decode cX6_upwards 3 = .ok (.lconst 0, 1) := by decide +kernel
theorem dX6_upwards_4 : decode cX6_upwards 4 = .ok (.lcmp, 1) := by decide +kernel
theorem dX6_upwards_5 : decode cX6_upwards 5 = .ok (.ifCond .ne 9, 3) := by decide +kernel
theorem dX6_upwards_8 : decode cX6_upwards 8 = .ok (.lload_n 0, 1) := by decide +kernel
theorem dX6_upwards_9 : decode cX6_upwards 9 = .ok (.lload_n 2, 1) := by decide +kernel
theorem dX6_upwards_10 : decode cX6_upwards 10 = .ok (.ldiv, 1) := by decide +kernel
theorem dX6_upwards_11 : decode cX6_upwards 11 = .ok (.goto 8, 3) := by decide +kernel
theorem dX6_upwards_14 : decode cX6_upwards 14 = .ok (.lload_n 0, 1) := by decide +kernel
theorem dX6_upwards_15 : decode cX6_upwards 15 = .ok (.lload_n 2, 1) := by decide +kernel
theorem dX6_upwards_16 : decode cX6_upwards 16 = .ok (.ldiv, 1) := by decide +kernel
theorem dX6_upwards_17 : decode cX6_upwards 17 = .ok (.lconst 1, 1) := by decide +kernel
theorem dX6_upwards_18 : decode cX6_upwards 18 = .ok (.ladd, 1) := by decide +kernel
theorem dX6_upwards_19 : decode cX6_upwards 19 = .ok (.lreturn, 1) := by decide +kernel
theorem dX6_comes_0 : decode cX6_comes 0 = .ok (.lload_n 2, 1) := by decide +kernel
theorem dX6_comes_1 : decode cX6_comes 1 = .ok (.aload_n 0, 1) := by decide +kernel
theorem dX6_comes_2 : decode cX6_comes 2 = .ok (.getfield 26, 3) := by decide +kernel
theorem dX6_comes_5 : decode cX6_comes 5 = .ok (.iload_n 1, 1) := by decide +kernel
theorem dX6_comes_6 : decode cX6_comes 6 = .ok (.laload, 1) := by decide +kernel
theorem dX6_comes_7 : decode cX6_comes 7 = .ok (.invokestatic 93, 3) := by decide +kernel
theorem dX6_comes_10 : decode cX6_comes 10 = .ok (.lstore 4, 2) := by decide +kernel
theorem dX6_comes_12 : decode cX6_comes 12 = .ok (.aload_n 0, 1) := by decide +kernel
theorem dX6_comes_13 : decode cX6_comes 13 = .ok (.getfield 23, 3) := by decide +kernel
theorem dX6_comes_16 : decode cX6_comes 16 = .ok (.iload_n 1, 1) := by decide +kernel
theorem dX6_comes_17 : decode cX6_comes 17 = .ok (.iaload, 1) := by decide +kernel
theorem dX6_comes_18 : decode cX6_comes 18 = .ok (.i2l, 1) := by decide +kernel
theorem dX6_comes_19 : decode cX6_comes 19 = .ok (.lload_n 2, 1) := by decide +kernel
theorem dX6_comes_20 : decode cX6_comes 20 = .ok (.aload_n 0, 1) := by decide +kernel
theorem dX6_comes_21 : decode cX6_comes 21 = .ok (.getfield 20, 3) := by decide +kernel
theorem dX6_comes_24 : decode cX6_comes 24 = .ok (.iload_n 1, 1) := by decide +kernel
theorem dX6_comes_25 : decode cX6_comes 25 = .ok (.laload, 1) := by decide +kernel
theorem dX6_comes_26 : decode cX6_comes 26 = .ok (.ladd, 1) := by decide +kernel
theorem dX6_comes_27 : decode cX6_comes 27 = .ok (.aload_n 0, 1) := by decide +kernel
theorem dX6_comes_28 : decode cX6_comes 28 = .ok (.getfield 13, 3) := by decide +kernel
theorem dX6_comes_31 : decode cX6_comes 31 = .ok (.iload_n 1, 1) := by decide +kernel
theorem dX6_comes_32 : decode cX6_comes 32 = .ok (.laload, 1) := by decide +kernel
theorem dX6_comes_33 : decode cX6_comes 33 = .ok (.invokestatic 93, 3) := by decide +kernel
theorem dX6_comes_36 : decode cX6_comes 36 = .ok (.lmul, 1) := by decide +kernel
theorem dX6_comes_37 : decode cX6_comes 37 = .ok (.lstore 6, 2) := by decide +kernel
theorem dX6_comes_39 : decode cX6_comes 39 = .ok (.lload 4, 2) := by decide +kernel
theorem dX6_comes_41 : decode cX6_comes 41 = .ok (.lload 6, 2) := by decide +kernel
theorem dX6_comes_43 : decode cX6_comes 43 = .ok (.lcmp, 1) := by decide +kernel
theorem dX6_comes_44 : decode cX6_comes 44 = .ok (.ifCond .ge 8, 3) := by decide +kernel
theorem dX6_comes_47 : decode cX6_comes 47 = .ok (.lload 4, 2) := by decide +kernel
theorem dX6_comes_49 : decode cX6_comes 49 = .ok (.goto 5, 3) := by decide +kernel
theorem dX6_comes_52 : decode cX6_comes 52 = .ok (.lload 6, 2) := by decide +kernel
theorem dX6_comes_54 : decode cX6_comes 54 = .ok (.lreturn, 1) := by decide +kernel
theorem dX6_cost_0 : decode cX6_cost 0 = .ok (.aload_n 0, 1) := by decide +kernel
theorem dX6_cost_1 : decode cX6_cost 1 = .ok (.getfield 7, 3) := by decide +kernel
theorem dX6_cost_4 : decode cX6_cost 4 = .ok (.iload_n 1, 1) := by decide +kernel
theorem dX6_cost_5 : decode cX6_cost 5 = .ok (.laload, 1) := by decide +kernel
theorem dX6_cost_6 : decode cX6_cost 6 = .ok (.aload_n 0, 1) := by decide +kernel
theorem dX6_cost_7 : decode cX6_cost 7 = .ok (.getfield 29, 3) := by decide +kernel
theorem dX6_cost_10 : decode cX6_cost 10 = .ok (.iload_n 1, 1) := by decide +kernel
theorem dX6_cost_11 : decode cX6_cost 11 = .ok (.laload, 1) := by decide +kernel
theorem dX6_cost_12 : decode cX6_cost 12 = .ok (.ladd, 1) := by decide +kernel
theorem dX6_cost_13 : decode cX6_cost 13 = .ok (.lreturn, 1) := by decide +kernel
theorem dX6_later_0 : decode cX6_later 0 = .ok (.iload_n 2, 1) := by decide +kernel
theorem dX6_later_1 : decode cX6_later 1 = .ok (.i2l, 1) := by decide +kernel
theorem dX6_later_2 : decode cX6_later 2 = .ok (.aload_n 0, 1) := by decide +kernel
theorem dX6_later_3 : decode cX6_later 3 = .ok (.getfield 26, 3) := by decide +kernel
theorem dX6_later_6 : decode cX6_later 6 = .ok (.iload_n 1, 1) := by decide +kernel
theorem dX6_later_7 : decode cX6_later 7 = .ok (.laload, 1) := by decide +kernel
theorem dX6_later_8 : decode cX6_later 8 = .ok (.lmul, 1) := by decide +kernel
theorem dX6_later_9 : decode cX6_later 9 = .ok (.lstore_n 3, 1) := by decide +kernel
theorem dX6_later_10 : decode cX6_later 10 = .ok (.iload_n 2, 1) := by decide +kernel
theorem dX6_later_11 : decode cX6_later 11 = .ok (.aload_n 0, 1) := by decide +kernel
theorem dX6_later_12 : decode cX6_later 12 = .ok (.getfield 23, 3) := by decide +kernel
theorem dX6_later_15 : decode cX6_later 15 = .ok (.iload_n 1, 1) := by decide +kernel
theorem dX6_later_16 : decode cX6_later 16 = .ok (.iaload, 1) := by decide +kernel
theorem dX6_later_17 : decode cX6_later 17 = .ok (.idiv, 1) := by decide +kernel
theorem dX6_later_18 : decode cX6_later 18 = .ok (.i2l, 1) := by decide +kernel
theorem dX6_later_19 : decode cX6_later 19 = .ok (.aload_n 0, 1) := by decide +kernel
theorem dX6_later_20 : decode cX6_later 20 = .ok (.getfield 13, 3) := by decide +kernel
theorem dX6_later_23 : decode cX6_later 23 = .ok (.iload_n 1, 1) := by decide +kernel
theorem dX6_later_24 : decode cX6_later 24 = .ok (.laload, 1) := by decide +kernel
theorem dX6_later_25 : decode cX6_later 25 = .ok (.lmul, 1) := by decide +kernel
theorem dX6_later_26 : decode cX6_later 26 = .ok (.aload_n 0, 1) := by decide +kernel
theorem dX6_later_27 : decode cX6_later 27 = .ok (.getfield 20, 3) := by decide +kernel
theorem dX6_later_30 : decode cX6_later 30 = .ok (.iload_n 1, 1) := by decide +kernel
theorem dX6_later_31 : decode cX6_later 31 = .ok (.laload, 1) := by decide +kernel
theorem dX6_later_32 : decode cX6_later 32 = .ok (.lsub, 1) := by decide +kernel
theorem dX6_later_33 : decode cX6_later 33 = .ok (.lstore 5, 2) := by decide +kernel
theorem dX6_later_35 : decode cX6_later 35 = .ok (.lload 5, 2) := by decide +kernel
theorem dX6_later_37 : decode cX6_later 37 = .ok (.lload_n 3, 1) := by decide +kernel
theorem dX6_later_38 : decode cX6_later 38 = .ok (.lcmp, 1) := by decide +kernel
theorem dX6_later_39 : decode cX6_later 39 = .ok (.ifCond .le 8, 3) := by decide +kernel
theorem dX6_later_42 : decode cX6_later 42 = .ok (.lload 5, 2) := by decide +kernel
theorem dX6_later_44 : decode cX6_later 44 = .ok (.goto 4, 3) := by decide +kernel
theorem dX6_later_47 : decode cX6_later 47 = .ok (.lload_n 3, 1) := by decide +kernel
theorem dX6_later_48 : decode cX6_later 48 = .ok (.lstore_n 3, 1) := by decide +kernel
theorem dX6_later_49 : decode cX6_later 49 = .ok (.lload_n 3, 1) := by decide +kernel
theorem dX6_later_50 : decode cX6_later 50 = .ok (.lconst 0, 1) := by decide +kernel
theorem dX6_later_51 : decode cX6_later 51 = .ok (.lcmp, 1) := by decide +kernel
theorem dX6_later_52 : decode cX6_later 52 = .ok (.ifCond .le 7, 3) := by decide +kernel
theorem dX6_later_55 : decode cX6_later 55 = .ok (.lload_n 3, 1) := by decide +kernel
theorem dX6_later_56 : decode cX6_later 56 = .ok (.goto 4, 3) := by decide +kernel
theorem dX6_later_59 : decode cX6_later 59 = .ok (.lconst 0, 1) := by decide +kernel
theorem dX6_later_60 : decode cX6_later 60 = .ok (.lreturn, 1) := by decide +kernel
theorem dX6_reaches_0 : decode cX6_reaches 0 = .ok (.iconst 0, 1) := by decide +kernel
theorem dX6_reaches_1 : decode cX6_reaches 1 = .ok (.istore_n 3, 1) := by decide +kernel
theorem dX6_reaches_2 : decode cX6_reaches 2 = .ok (.iconst 1, 1) := by decide +kernel
theorem dX6_reaches_3 : decode cX6_reaches 3 = .ok (.istore 4, 2) := by decide +kernel
theorem dX6_reaches_5 : decode cX6_reaches 5 = .ok (.iload 4, 2) := by decide +kernel
theorem dX6_reaches_7 : decode cX6_reaches 7 = .ok (.aload_n 0, 1) := by decide +kernel
theorem dX6_reaches_8 : decode cX6_reaches 8 = .ok (.getfield 67, 3) := by decide +kernel
theorem dX6_reaches_11 : decode cX6_reaches 11 = .ok (.if_icmp .gt 71, 3) := by decide +kernel
theorem dX6_reaches_14 : decode cX6_reaches 14 = .ok (.iconst 0, 1) := by decide +kernel
theorem dX6_reaches_15 : decode cX6_reaches 15 = .ok (.istore 5, 2) := by decide +kernel
theorem dX6_reaches_17 : decode cX6_reaches 17 = .ok (.iload 5, 2) := by decide +kernel
theorem dX6_reaches_19 : decode cX6_reaches 19 = .ok (.aload_n 0, 1) := by decide +kernel
theorem dX6_reaches_20 : decode cX6_reaches 20 = .ok (.getfield 35, 3) := by decide +kernel
theorem dX6_reaches_23 : decode cX6_reaches 23 = .ok (.iload 4, 2) := by decide +kernel
theorem dX6_reaches_25 : decode cX6_reaches 25 = .ok (.iaload, 1) := by decide +kernel
theorem dX6_reaches_26 : decode cX6_reaches 26 = .ok (.if_icmp .ge 50, 3) := by decide +kernel
theorem dX6_reaches_29 : decode cX6_reaches 29 = .ok (.iload_n 3, 1) := by decide +kernel
theorem dX6_reaches_30 : decode cX6_reaches 30 = .ok (.ifCond .ne 34, 3) := by decide +kernel
theorem dX6_reaches_33 : decode cX6_reaches 33 = .ok (.aload_n 0, 1) := by decide +kernel
theorem dX6_reaches_34 : decode cX6_reaches 34 = .ok (.getfield 16, 3) := by decide +kernel
theorem dX6_reaches_37 : decode cX6_reaches 37 = .ok (.iload 4, 2) := by decide +kernel
theorem dX6_reaches_39 : decode cX6_reaches 39 = .ok (.iaload, 1) := by decide +kernel
theorem dX6_reaches_40 : decode cX6_reaches 40 = .ok (.iload_n 2, 1) := by decide +kernel
theorem dX6_reaches_41 : decode cX6_reaches 41 = .ok (.if_icmp .lt 27, 3) := by decide +kernel
theorem dX6_reaches_44 : decode cX6_reaches 44 = .ok (.aload_n 0, 1) := by decide +kernel
theorem dX6_reaches_45 : decode cX6_reaches 45 = .ok (.getfield 38, 3) := by decide +kernel
theorem dX6_reaches_48 : decode cX6_reaches 48 = .ok (.bipush 10, 2) := by decide +kernel
theorem dX6_reaches_50 : decode cX6_reaches 50 = .ok (.iload 4, 2) := by decide +kernel
theorem dX6_reaches_52 : decode cX6_reaches 52 = .ok (.imul, 1) := by decide +kernel
theorem dX6_reaches_53 : decode cX6_reaches 53 = .ok (.bipush 10, 2) := by decide +kernel
theorem dX6_reaches_55 : decode cX6_reaches 55 = .ok (.isub, 1) := by decide +kernel
theorem dX6_reaches_56 : decode cX6_reaches 56 = .ok (.iload 5, 2) := by decide +kernel
theorem dX6_reaches_58 : decode cX6_reaches 58 = .ok (.iadd, 1) := by decide +kernel
theorem dX6_reaches_59 : decode cX6_reaches 59 = .ok (.iaload, 1) := by decide +kernel
theorem dX6_reaches_60 : decode cX6_reaches 60 = .ok (.iload_n 1, 1) := by decide +kernel
theorem dX6_reaches_61 : decode cX6_reaches 61 = .ok (.if_icmp .ne 7, 3) := by decide +kernel
theorem dX6_reaches_64 : decode cX6_reaches 64 = .ok (.iconst 1, 1) := by decide +kernel
theorem dX6_reaches_65 : decode cX6_reaches 65 = .ok (.goto 4, 3) := by decide +kernel
theorem dX6_reaches_68 : decode cX6_reaches 68 = .ok (.iconst 0, 1) := by decide +kernel
theorem dX6_reaches_69 : decode cX6_reaches 69 = .ok (.istore_n 3, 1) := by decide +kernel
theorem dX6_reaches_70 : decode cX6_reaches 70 = .ok (.iinc 5 1, 3) := by decide +kernel
theorem dX6_reaches_73 : decode cX6_reaches 73 = .ok (.goto (-56), 3) := by decide +kernel
theorem dX6_reaches_76 : decode cX6_reaches 76 = .ok (.iinc 4 1, 3) := by decide +kernel
theorem dX6_reaches_79 : decode cX6_reaches 79 = .ok (.goto (-74), 3) := by decide +kernel
theorem dX6_reaches_82 : decode cX6_reaches 82 = .ok (.iload_n 3, 1) := by decide +kernel
theorem dX6_reaches_83 : decode cX6_reaches 83 = .ok (.ireturn, 1) := by decide +kernel
theorem dX6_blocking_0 : decode cX6_blocking 0 = .ok (.lconst 0, 1) := by decide +kernel
theorem dX6_blocking_1 : decode cX6_blocking 1 = .ok (.lstore_n 2, 1) := by decide +kernel
theorem dX6_blocking_2 : decode cX6_blocking 2 = .ok (.iconst 1, 1) := by decide +kernel
theorem dX6_blocking_3 : decode cX6_blocking 3 = .ok (.istore 4, 2) := by decide +kernel
theorem dX6_blocking_5 : decode cX6_blocking 5 = .ok (.iload 4, 2) := by decide +kernel
theorem dX6_blocking_7 : decode cX6_blocking 7 = .ok (.aload_n 0, 1) := by decide +kernel
theorem dX6_blocking_8 : decode cX6_blocking 8 = .ok (.getfield 67, 3) := by decide +kernel
theorem dX6_blocking_11 : decode cX6_blocking 11 = .ok (.if_icmp .gt 99, 3) := by decide +kernel
theorem dX6_blocking_14 : decode cX6_blocking 14 = .ok (.iconst 0, 1) := by decide +kernel
theorem dX6_blocking_15 : decode cX6_blocking 15 = .ok (.istore 5, 2) := by decide +kernel
theorem dX6_blocking_17 : decode cX6_blocking 17 = .ok (.iload 5, 2) := by decide +kernel
theorem dX6_blocking_19 : decode cX6_blocking 19 = .ok (.aload_n 0, 1) := by decide +kernel
theorem dX6_blocking_20 : decode cX6_blocking 20 = .ok (.getfield 35, 3) := by decide +kernel
theorem dX6_blocking_23 : decode cX6_blocking 23 = .ok (.iload 4, 2) := by decide +kernel
theorem dX6_blocking_25 : decode cX6_blocking 25 = .ok (.iaload, 1) := by decide +kernel
theorem dX6_blocking_26 : decode cX6_blocking 26 = .ok (.if_icmp .ge 78, 3) := by decide +kernel
theorem dX6_blocking_29 : decode cX6_blocking 29 = .ok (.bipush 10, 2) := by decide +kernel
theorem dX6_blocking_31 : decode cX6_blocking 31 = .ok (.iload 4, 2) := by decide +kernel
theorem dX6_blocking_33 : decode cX6_blocking 33 = .ok (.imul, 1) := by decide +kernel
theorem dX6_blocking_34 : decode cX6_blocking 34 = .ok (.bipush 10, 2) := by decide +kernel
theorem dX6_blocking_36 : decode cX6_blocking 36 = .ok (.isub, 1) := by decide +kernel
theorem dX6_blocking_37 : decode cX6_blocking 37 = .ok (.iload 5, 2) := by decide +kernel
theorem dX6_blocking_39 : decode cX6_blocking 39 = .ok (.iadd, 1) := by decide +kernel
theorem dX6_blocking_40 : decode cX6_blocking 40 = .ok (.istore 6, 2) := by decide +kernel
theorem dX6_blocking_42 : decode cX6_blocking 42 = .ok (.aload_n 0, 1) := by decide +kernel
theorem dX6_blocking_43 : decode cX6_blocking 43 = .ok (.getfield 16, 3) := by decide +kernel
theorem dX6_blocking_46 : decode cX6_blocking 46 = .ok (.iload 4, 2) := by decide +kernel
theorem dX6_blocking_48 : decode cX6_blocking 48 = .ok (.iaload, 1) := by decide +kernel
theorem dX6_blocking_49 : decode cX6_blocking 49 = .ok (.aload_n 0, 1) := by decide +kernel
theorem dX6_blocking_50 : decode cX6_blocking 50 = .ok (.getfield 16, 3) := by decide +kernel
theorem dX6_blocking_53 : decode cX6_blocking 53 = .ok (.iload_n 1, 1) := by decide +kernel
theorem dX6_blocking_54 : decode cX6_blocking 54 = .ok (.iaload, 1) := by decide +kernel
theorem dX6_blocking_55 : decode cX6_blocking 55 = .ok (.if_icmp .ge 43, 3) := by decide +kernel
theorem dX6_blocking_58 : decode cX6_blocking 58 = .ok (.aload_n 0, 1) := by decide +kernel
theorem dX6_blocking_59 : decode cX6_blocking 59 = .ok (.getfield 41, 3) := by decide +kernel
theorem dX6_blocking_62 : decode cX6_blocking 62 = .ok (.iload 6, 2) := by decide +kernel
theorem dX6_blocking_64 : decode cX6_blocking 64 = .ok (.laload, 1) := by decide +kernel
theorem dX6_blocking_65 : decode cX6_blocking 65 = .ok (.lload_n 2, 1) := by decide +kernel
theorem dX6_blocking_66 : decode cX6_blocking 66 = .ok (.lcmp, 1) := by decide +kernel
theorem dX6_blocking_67 : decode cX6_blocking 67 = .ok (.ifCond .le 31, 3) := by decide +kernel
theorem dX6_blocking_70 : decode cX6_blocking 70 = .ok (.aload_n 0, 1) := by decide +kernel
theorem dX6_blocking_71 : decode cX6_blocking 71 = .ok (.aload_n 0, 1) := by decide +kernel
theorem dX6_blocking_72 : decode cX6_blocking 72 = .ok (.getfield 38, 3) := by decide +kernel
theorem dX6_blocking_75 : decode cX6_blocking 75 = .ok (.iload 6, 2) := by decide +kernel
theorem dX6_blocking_77 : decode cX6_blocking 77 = .ok (.iaload, 1) := by decide +kernel
theorem dX6_blocking_78 : decode cX6_blocking 78 = .ok (.aload_n 0, 1) := by decide +kernel
theorem dX6_blocking_79 : decode cX6_blocking 79 = .ok (.getfield 16, 3) := by decide +kernel
theorem dX6_blocking_82 : decode cX6_blocking 82 = .ok (.iload_n 1, 1) := by decide +kernel
theorem dX6_blocking_83 : decode cX6_blocking 83 = .ok (.iaload, 1) := by decide +kernel
theorem dX6_blocking_84 : decode cX6_blocking 84 = .ok (.invokevirtual 97, 3) := by decide +kernel
theorem dX6_blocking_87 : decode cX6_blocking 87 = .ok (.ifCond .eq 11, 3) := by decide +kernel
theorem dX6_blocking_90 : decode cX6_blocking 90 = .ok (.aload_n 0, 1) := by decide +kernel
theorem dX6_blocking_91 : decode cX6_blocking 91 = .ok (.getfield 41, 3) := by decide +kernel
theorem dX6_blocking_94 : decode cX6_blocking 94 = .ok (.iload 6, 2) := by decide +kernel
theorem dX6_blocking_96 : decode cX6_blocking 96 = .ok (.laload, 1) := by decide +kernel
theorem dX6_blocking_97 : decode cX6_blocking 97 = .ok (.lstore_n 2, 1) := by decide +kernel
theorem dX6_blocking_98 : decode cX6_blocking 98 = .ok (.iinc 5 1, 3) := by decide +kernel
theorem dX6_blocking_101 : decode cX6_blocking 101 = .ok (.goto (-84), 3) := by decide +kernel
theorem dX6_blocking_104 : decode cX6_blocking 104 = .ok (.iinc 4 1, 3) := by decide +kernel
theorem dX6_blocking_107 : decode cX6_blocking 107 = .ok (.goto (-102), 3) := by decide +kernel
theorem dX6_blocking_110 : decode cX6_blocking 110 = .ok (.lload_n 2, 1) := by decide +kernel
theorem dX6_blocking_111 : decode cX6_blocking 111 = .ok (.lreturn, 1) := by decide +kernel
theorem dX6_need_0 : decode cX6_need 0 = .ok (.iload_n 2, 1) := by decide +kernel
theorem dX6_need_1 : decode cX6_need 1 = .ok (.iconst 1, 1) := by decide +kernel
theorem dX6_need_2 : decode cX6_need 2 = .ok (.iadd, 1) := by decide +kernel
theorem dX6_need_3 : decode cX6_need 3 = .ok (.i2l, 1) := by decide +kernel
theorem dX6_need_4 : decode cX6_need 4 = .ok (.aload_n 0, 1) := by decide +kernel
theorem dX6_need_5 : decode cX6_need 5 = .ok (.iload_n 1, 1) := by decide +kernel
theorem dX6_need_6 : decode cX6_need 6 = .ok (.invokevirtual 101, 3) := by decide +kernel
theorem dX6_need_9 : decode cX6_need 9 = .ok (.lmul, 1) := by decide +kernel
theorem dX6_need_10 : decode cX6_need 10 = .ok (.lload_n 3, 1) := by decide +kernel
theorem dX6_need_11 : decode cX6_need 11 = .ok (.ladd, 1) := by decide +kernel
theorem dX6_need_12 : decode cX6_need 12 = .ok (.lstore 7, 2) := by decide +kernel
theorem dX6_need_14 : decode cX6_need 14 = .ok (.iconst 1, 1) := by decide +kernel
theorem dX6_need_15 : decode cX6_need 15 = .ok (.istore 9, 2) := by decide +kernel
theorem dX6_need_17 : decode cX6_need 17 = .ok (.iload 9, 2) := by decide +kernel
theorem dX6_need_19 : decode cX6_need 19 = .ok (.aload_n 0, 1) := by decide +kernel
theorem dX6_need_20 : decode cX6_need 20 = .ok (.getfield 67, 3) := by decide +kernel
theorem dX6_need_23 : decode cX6_need 23 = .ok (.if_icmp .gt 51, 3) := by decide +kernel
theorem dX6_need_26 : decode cX6_need 26 = .ok (.iload 9, 2) := by decide +kernel
theorem dX6_need_28 : decode cX6_need 28 = .ok (.iload_n 1, 1) := by decide +kernel
theorem dX6_need_29 : decode cX6_need 29 = .ok (.if_icmp .eq 39, 3) := by decide +kernel
theorem dX6_need_32 : decode cX6_need 32 = .ok (.aload_n 0, 1) := by decide +kernel
theorem dX6_need_33 : decode cX6_need 33 = .ok (.getfield 16, 3) := by decide +kernel
theorem dX6_need_36 : decode cX6_need 36 = .ok (.iload 9, 2) := by decide +kernel
theorem dX6_need_38 : decode cX6_need 38 = .ok (.iaload, 1) := by decide +kernel
theorem dX6_need_39 : decode cX6_need 39 = .ok (.aload_n 0, 1) := by decide +kernel
theorem dX6_need_40 : decode cX6_need 40 = .ok (.getfield 16, 3) := by decide +kernel
theorem dX6_need_43 : decode cX6_need 43 = .ok (.iload_n 1, 1) := by decide +kernel
theorem dX6_need_44 : decode cX6_need 44 = .ok (.iaload, 1) := by decide +kernel
theorem dX6_need_45 : decode cX6_need 45 = .ok (.if_icmp .lt 23, 3) := by decide +kernel
theorem dX6_need_48 : decode cX6_need 48 = .ok (.lload 7, 2) := by decide +kernel
theorem dX6_need_50 : decode cX6_need 50 = .ok (.aload_n 0, 1) := by decide +kernel
theorem dX6_need_51 : decode cX6_need 51 = .ok (.iload 9, 2) := by decide +kernel
theorem dX6_need_53 : decode cX6_need 53 = .ok (.lload 5, 2) := by decide +kernel
theorem dX6_need_55 : decode cX6_need 55 = .ok (.invokevirtual 105, 3) := by decide +kernel
theorem dX6_need_58 : decode cX6_need 58 = .ok (.aload_n 0, 1) := by decide +kernel
theorem dX6_need_59 : decode cX6_need 59 = .ok (.iload 9, 2) := by decide +kernel
theorem dX6_need_61 : decode cX6_need 61 = .ok (.invokevirtual 101, 3) := by decide +kernel
theorem dX6_need_64 : decode cX6_need 64 = .ok (.lmul, 1) := by decide +kernel
theorem dX6_need_65 : decode cX6_need 65 = .ok (.ladd, 1) := by decide +kernel
theorem dX6_need_66 : decode cX6_need 66 = .ok (.lstore 7, 2) := by decide +kernel
theorem dX6_need_68 : decode cX6_need 68 = .ok (.iinc 9 1, 3) := by decide +kernel
theorem dX6_need_71 : decode cX6_need 71 = .ok (.goto (-54), 3) := by decide +kernel
theorem dX6_need_74 : decode cX6_need 74 = .ok (.iconst 1, 1) := by decide +kernel
theorem dX6_need_75 : decode cX6_need 75 = .ok (.istore 9, 2) := by decide +kernel
theorem dX6_need_77 : decode cX6_need 77 = .ok (.iload 9, 2) := by decide +kernel
theorem dX6_need_79 : decode cX6_need 79 = .ok (.aload_n 0, 1) := by decide +kernel
theorem dX6_need_80 : decode cX6_need 80 = .ok (.getfield 90, 3) := by decide +kernel
theorem dX6_need_83 : decode cX6_need 83 = .ok (.if_icmp .gt 34, 3) := by decide +kernel
theorem dX6_need_86 : decode cX6_need 86 = .ok (.lload 7, 2) := by decide +kernel
theorem dX6_need_88 : decode cX6_need 88 = .ok (.lload 5, 2) := by decide +kernel
theorem dX6_need_90 : decode cX6_need 90 = .ok (.aload_n 0, 1) := by decide +kernel
theorem dX6_need_91 : decode cX6_need 91 = .ok (.getfield 47, 3) := by decide +kernel
theorem dX6_need_94 : decode cX6_need 94 = .ok (.iload 9, 2) := by decide +kernel
theorem dX6_need_96 : decode cX6_need 96 = .ok (.laload, 1) := by decide +kernel
theorem dX6_need_97 : decode cX6_need 97 = .ok (.invokestatic 93, 3) := by decide +kernel
theorem dX6_need_100 : decode cX6_need 100 = .ok (.aload_n 0, 1) := by decide +kernel
theorem dX6_need_101 : decode cX6_need 101 = .ok (.getfield 44, 3) := by decide +kernel
theorem dX6_need_104 : decode cX6_need 104 = .ok (.iload 9, 2) := by decide +kernel
theorem dX6_need_106 : decode cX6_need 106 = .ok (.laload, 1) := by decide +kernel
theorem dX6_need_107 : decode cX6_need 107 = .ok (.lmul, 1) := by decide +kernel
theorem dX6_need_108 : decode cX6_need 108 = .ok (.ladd, 1) := by decide +kernel
theorem dX6_need_109 : decode cX6_need 109 = .ok (.lstore 7, 2) := by decide +kernel
theorem dX6_need_111 : decode cX6_need 111 = .ok (.iinc 9 1, 3) := by decide +kernel
theorem dX6_need_114 : decode cX6_need 114 = .ok (.goto (-37), 3) := by decide +kernel
theorem dX6_need_117 : decode cX6_need 117 = .ok (.lload 7, 2) := by decide +kernel
theorem dX6_need_119 : decode cX6_need 119 = .ok (.lreturn, 1) := by decide +kernel
theorem dX6_search_0 : decode cX6_search 0 = .ok (.ldc2_w 80, 3) := by decide +kernel
theorem dX6_search_3 : decode cX6_search 3 = .ok (.lstore_n 2, 1) := by decide +kernel
theorem dX6_search_4 : decode cX6_search 4 = .ok (.aload_n 0, 1) := by decide +kernel
theorem dX6_search_5 : decode cX6_search 5 = .ok (.iload_n 1, 1) := by decide +kernel
theorem dX6_search_6 : decode cX6_search 6 = .ok (.invokevirtual 109, 3) := by decide +kernel
theorem dX6_search_9 : decode cX6_search 9 = .ok (.lstore 4, 2) := by decide +kernel
theorem dX6_search_11 : decode cX6_search 11 = .ok (.lconst 1, 1) := by decide +kernel
theorem dX6_search_12 : decode cX6_search 12 = .ok (.lstore 6, 2) := by decide +kernel
theorem dX6_search_14 : decode cX6_search 14 = .ok (.iconst 0, 1) := by decide +kernel
theorem dX6_search_15 : decode cX6_search 15 = .ok (.istore 8, 2) := by decide +kernel
theorem dX6_search_17 : decode cX6_search 17 = .ok (.iload 8, 2) := by decide +kernel
theorem dX6_search_19 : decode cX6_search 19 = .ok (.sipush 500, 3) := by decide +kernel
theorem dX6_search_22 : decode cX6_search 22 = .ok (.if_icmp .ge 144, 3) := by decide +kernel
theorem dX6_search_25 : decode cX6_search 25 = .ok (.aload_n 0, 1) := by decide +kernel
theorem dX6_search_26 : decode cX6_search 26 = .ok (.iload_n 1, 1) := by decide +kernel
theorem dX6_search_27 : decode cX6_search 27 = .ok (.iload 8, 2) := by decide +kernel
theorem dX6_search_29 : decode cX6_search 29 = .ok (.lload 4, 2) := by decide +kernel
theorem dX6_search_31 : decode cX6_search 31 = .ok (.lload 6, 2) := by decide +kernel
theorem dX6_search_33 : decode cX6_search 33 = .ok (.invokevirtual 112, 3) := by decide +kernel
theorem dX6_search_36 : decode cX6_search 36 = .ok (.lstore 9, 2) := by decide +kernel
theorem dX6_search_38 : decode cX6_search 38 = .ok (.lload 9, 2) := by decide +kernel
theorem dX6_search_40 : decode cX6_search 40 = .ok (.lload 6, 2) := by decide +kernel
theorem dX6_search_42 : decode cX6_search 42 = .ok (.lcmp, 1) := by decide +kernel
theorem dX6_search_43 : decode cX6_search 43 = .ok (.ifCond .le 32, 3) := by decide +kernel
theorem dX6_search_46 : decode cX6_search 46 = .ok (.lload 9, 2) := by decide +kernel
theorem dX6_search_48 : decode cX6_search 48 = .ok (.ldc2_w 116, 3) := by decide +kernel
theorem dX6_search_51 : decode cX6_search 51 = .ok (.lcmp, 1) := by decide +kernel
theorem dX6_search_52 : decode cX6_search 52 = .ok (.ifCond .gt 23, 3) := by decide +kernel
theorem dX6_search_55 : decode cX6_search 55 = .ok (.lload 9, 2) := by decide +kernel
theorem dX6_search_57 : decode cX6_search 57 = .ok (.lstore 6, 2) := by decide +kernel
theorem dX6_search_59 : decode cX6_search 59 = .ok (.aload_n 0, 1) := by decide +kernel
theorem dX6_search_60 : decode cX6_search 60 = .ok (.iload_n 1, 1) := by decide +kernel
theorem dX6_search_61 : decode cX6_search 61 = .ok (.iload 8, 2) := by decide +kernel
theorem dX6_search_63 : decode cX6_search 63 = .ok (.lload 4, 2) := by decide +kernel
theorem dX6_search_65 : decode cX6_search 65 = .ok (.lload 6, 2) := by decide +kernel
theorem dX6_search_67 : decode cX6_search 67 = .ok (.invokevirtual 112, 3) := by decide +kernel
theorem dX6_search_70 : decode cX6_search 70 = .ok (.lstore 9, 2) := by decide +kernel
theorem dX6_search_72 : decode cX6_search 72 = .ok (.goto (-34), 3) := by decide +kernel
theorem dX6_search_75 : decode cX6_search 75 = .ok (.lload 9, 2) := by decide +kernel
theorem dX6_search_77 : decode cX6_search 77 = .ok (.ldc2_w 116, 3) := by decide +kernel
theorem dX6_search_80 : decode cX6_search 80 = .ok (.lcmp, 1) := by decide +kernel
theorem dX6_search_81 : decode cX6_search 81 = .ok (.ifCond .le 7, 3) := by decide +kernel
theorem dX6_search_84 : decode cX6_search 84 = .ok (.ldc2_w 80, 3) := by decide +kernel
theorem dX6_search_87 : decode cX6_search 87 = .ok (.lreturn, 1) := by decide +kernel
theorem dX6_search_88 : decode cX6_search 88 = .ok (.lload 6, 2) := by decide +kernel
theorem dX6_search_90 : decode cX6_search 90 = .ok (.aload_n 0, 1) := by decide +kernel
theorem dX6_search_91 : decode cX6_search 91 = .ok (.iload_n 1, 1) := by decide +kernel
theorem dX6_search_92 : decode cX6_search 92 = .ok (.iload 8, 2) := by decide +kernel
theorem dX6_search_94 : decode cX6_search 94 = .ok (.invokevirtual 118, 3) := by decide +kernel
theorem dX6_search_97 : decode cX6_search 97 = .ok (.lsub, 1) := by decide +kernel
theorem dX6_search_98 : decode cX6_search 98 = .ok (.lload_n 2, 1) := by decide +kernel
theorem dX6_search_99 : decode cX6_search 99 = .ok (.lcmp, 1) := by decide +kernel
theorem dX6_search_100 : decode cX6_search 100 = .ok (.ifCond .le 26, 3) := by decide +kernel
theorem dX6_search_103 : decode cX6_search 103 = .ok (.lload 6, 2) := by decide +kernel
theorem dX6_search_105 : decode cX6_search 105 = .ok (.aload_n 0, 1) := by decide +kernel
theorem dX6_search_106 : decode cX6_search 106 = .ok (.iload_n 1, 1) := by decide +kernel
theorem dX6_search_107 : decode cX6_search 107 = .ok (.iload 8, 2) := by decide +kernel
theorem dX6_search_109 : decode cX6_search 109 = .ok (.invokevirtual 118, 3) := by decide +kernel
theorem dX6_search_112 : decode cX6_search 112 = .ok (.lsub, 1) := by decide +kernel
theorem dX6_search_113 : decode cX6_search 113 = .ok (.lstore_n 2, 1) := by decide +kernel
theorem dX6_search_114 : decode cX6_search 114 = .ok (.aload_n 0, 1) := by decide +kernel
theorem dX6_search_115 : decode cX6_search 115 = .ok (.lload 6, 2) := by decide +kernel
theorem dX6_search_117 : decode cX6_search 117 = .ok (.putfield 122, 3) := by decide +kernel
theorem dX6_search_120 : decode cX6_search 120 = .ok (.aload_n 0, 1) := by decide +kernel
theorem dX6_search_121 : decode cX6_search 121 = .ok (.iload 8, 2) := by decide +kernel
theorem dX6_search_123 : decode cX6_search 123 = .ok (.putfield 126, 3) := by decide +kernel
theorem dX6_search_126 : decode cX6_search 126 = .ok (.lload 6, 2) := by decide +kernel
theorem dX6_search_128 : decode cX6_search 128 = .ok (.aload_n 0, 1) := by decide +kernel
theorem dX6_search_129 : decode cX6_search 129 = .ok (.iload_n 1, 1) := by decide +kernel
theorem dX6_search_130 : decode cX6_search 130 = .ok (.iload 8, 2) := by decide +kernel
theorem dX6_search_132 : decode cX6_search 132 = .ok (.iconst 1, 1) := by decide +kernel
theorem dX6_search_133 : decode cX6_search 133 = .ok (.iadd, 1) := by decide +kernel
theorem dX6_search_134 : decode cX6_search 134 = .ok (.invokevirtual 118, 3) := by decide +kernel
theorem dX6_search_137 : decode cX6_search 137 = .ok (.lcmp, 1) := by decide +kernel
theorem dX6_search_138 : decode cX6_search 138 = .ok (.ifCond .gt 22, 3) := by decide +kernel
theorem dX6_search_141 : decode cX6_search 141 = .ok (.lload_n 2, 1) := by decide +kernel
theorem dX6_search_142 : decode cX6_search 142 = .ok (.aload_n 0, 1) := by decide +kernel
theorem dX6_search_143 : decode cX6_search 143 = .ok (.getfield 13, 3) := by decide +kernel
theorem dX6_search_146 : decode cX6_search 146 = .ok (.iload_n 1, 1) := by decide +kernel
theorem dX6_search_147 : decode cX6_search 147 = .ok (.laload, 1) := by decide +kernel
theorem dX6_search_148 : decode cX6_search 148 = .ok (.lcmp, 1) := by decide +kernel
theorem dX6_search_149 : decode cX6_search 149 = .ok (.ifCond .le 9, 3) := by decide +kernel
theorem dX6_search_152 : decode cX6_search 152 = .ok (.ldc2_w 80, 3) := by decide +kernel
theorem dX6_search_155 : decode cX6_search 155 = .ok (.goto 4, 3) := by decide +kernel
theorem dX6_search_158 : decode cX6_search 158 = .ok (.lload_n 2, 1) := by decide +kernel
theorem dX6_search_159 : decode cX6_search 159 = .ok (.lreturn, 1) := by decide +kernel
theorem dX6_search_160 : decode cX6_search 160 = .ok (.iinc 8 1, 3) := by decide +kernel
theorem dX6_search_163 : decode cX6_search 163 = .ok (.goto (-146), 3) := by decide +kernel
theorem dX6_search_166 : decode cX6_search 166 = .ok (.ldc2_w 80, 3) := by decide +kernel
theorem dX6_search_169 : decode cX6_search 169 = .ok (.lreturn, 1) := by decide +kernel
theorem dX6_answer_0 : decode cX6_answer 0 = .ok (.aload_n 0, 1) := by decide +kernel
theorem dX6_answer_1 : decode cX6_answer 1 = .ok (.iconst 0, 1) := by decide +kernel
theorem dX6_answer_2 : decode cX6_answer 2 = .ok (.putfield 63, 3) := by decide +kernel
theorem dX6_answer_5 : decode cX6_answer 5 = .ok (.aload_n 0, 1) := by decide +kernel
theorem dX6_answer_6 : decode cX6_answer 6 = .ok (.iload_n 1, 1) := by decide +kernel
theorem dX6_answer_7 : decode cX6_answer 7 = .ok (.invokevirtual 82, 3) := by decide +kernel
theorem dX6_answer_10 : decode cX6_answer 10 = .ok (.ifCond .eq 11, 3) := by decide +kernel
theorem dX6_answer_13 : decode cX6_answer 13 = .ok (.aload_n 0, 1) := by decide +kernel
theorem dX6_answer_14 : decode cX6_answer 14 = .ok (.iload_n 1, 1) := by decide +kernel
theorem dX6_answer_15 : decode cX6_answer 15 = .ok (.invokevirtual 129, 3) := by decide +kernel
theorem dX6_answer_18 : decode cX6_answer 18 = .ok (.goto 6, 3) := by decide +kernel
theorem dX6_answer_21 : decode cX6_answer 21 = .ok (.ldc2_w 132, 3) := by decide +kernel
theorem dX6_answer_24 : decode cX6_answer 24 = .ok (.lreturn, 1) := by decide +kernel
theorem dX6_reason_0 : decode cX6_reason 0 = .ok (.aload_n 0, 1) := by decide +kernel
theorem dX6_reason_1 : decode cX6_reason 1 = .ok (.iconst 0, 1) := by decide +kernel
theorem dX6_reason_2 : decode cX6_reason 2 = .ok (.putfield 63, 3) := by decide +kernel
theorem dX6_reason_5 : decode cX6_reason 5 = .ok (.aload_n 0, 1) := by decide +kernel
theorem dX6_reason_6 : decode cX6_reason 6 = .ok (.iload_n 1, 1) := by decide +kernel
theorem dX6_reason_7 : decode cX6_reason 7 = .ok (.invokevirtual 82, 3) := by decide +kernel
theorem dX6_reason_10 : decode cX6_reason 10 = .ok (.ifCond .eq 17, 3) := by decide +kernel
theorem dX6_reason_13 : decode cX6_reason 13 = .ok (.iload_n 2, 1) := by decide +kernel
theorem dX6_reason_14 : decode cX6_reason 14 = .ok (.ifCond .lt 13, 3) := by decide +kernel
theorem dX6_reason_17 : decode cX6_reason 17 = .ok (.aload_n 0, 1) := by decide +kernel
theorem dX6_reason_18 : decode cX6_reason 18 = .ok (.iload_n 1, 1) := by decide +kernel
theorem dX6_reason_19 : decode cX6_reason 19 = .ok (.invokevirtual 129, 3) := by decide +kernel
theorem dX6_reason_22 : decode cX6_reason 22 = .ok (.lconst 0, 1) := by decide +kernel
theorem dX6_reason_23 : decode cX6_reason 23 = .ok (.lcmp, 1) := by decide +kernel
theorem dX6_reason_24 : decode cX6_reason 24 = .ok (.ifCond .ge 5, 3) := by decide +kernel
theorem dX6_reason_27 : decode cX6_reason 27 = .ok (.iconst (-1), 1) := by decide +kernel
theorem dX6_reason_28 : decode cX6_reason 28 = .ok (.ireturn, 1) := by decide +kernel
theorem dX6_reason_29 : decode cX6_reason 29 = .ok (.aload_n 0, 1) := by decide +kernel
theorem dX6_reason_30 : decode cX6_reason 30 = .ok (.getfield 122, 3) := by decide +kernel
theorem dX6_reason_33 : decode cX6_reason 33 = .ok (.lstore 4, 2) := by decide +kernel
theorem dX6_reason_35 : decode cX6_reason 35 = .ok (.lconst 0, 1) := by decide +kernel
theorem dX6_reason_36 : decode cX6_reason 36 = .ok (.lstore 6, 2) := by decide +kernel
theorem dX6_reason_38 : decode cX6_reason 38 = .ok (.lconst 0, 1) := by decide +kernel
theorem dX6_reason_39 : decode cX6_reason 39 = .ok (.lstore 8, 2) := by decide +kernel
theorem dX6_reason_41 : decode cX6_reason 41 = .ok (.iconst 0, 1) := by decide +kernel
theorem dX6_reason_42 : decode cX6_reason 42 = .ok (.istore 10, 2) := by decide +kernel
theorem dX6_reason_44 : decode cX6_reason 44 = .ok (.iload_n 2, 1) := by decide +kernel
theorem dX6_reason_45 : decode cX6_reason 45 = .ok (.ifCond .ne 21, 3) := by decide +kernel
theorem dX6_reason_48 : decode cX6_reason 48 = .ok (.aload_n 0, 1) := by decide +kernel
theorem dX6_reason_49 : decode cX6_reason 49 = .ok (.getfield 126, 3) := by decide +kernel
theorem dX6_reason_52 : decode cX6_reason 52 = .ok (.iconst 1, 1) := by decide +kernel
theorem dX6_reason_53 : decode cX6_reason 53 = .ok (.iadd, 1) := by decide +kernel
theorem dX6_reason_54 : decode cX6_reason 54 = .ok (.i2l, 1) := by decide +kernel
theorem dX6_reason_55 : decode cX6_reason 55 = .ok (.aload_n 0, 1) := by decide +kernel
theorem dX6_reason_56 : decode cX6_reason 56 = .ok (.iload_n 1, 1) := by decide +kernel
theorem dX6_reason_57 : decode cX6_reason 57 = .ok (.invokevirtual 101, 3) := by decide +kernel
theorem dX6_reason_60 : decode cX6_reason 60 = .ok (.lmul, 1) := by decide +kernel
theorem dX6_reason_61 : decode cX6_reason 61 = .ok (.lstore 8, 2) := by decide +kernel
theorem dX6_reason_63 : decode cX6_reason 63 = .ok (.goto 165, 3) := by decide +kernel
theorem dX6_reason_66 : decode cX6_reason 66 = .ok (.iload_n 2, 1) := by decide +kernel
theorem dX6_reason_67 : decode cX6_reason 67 = .ok (.iconst 1, 1) := by decide +kernel
theorem dX6_reason_68 : decode cX6_reason 68 = .ok (.if_icmp .ne 13, 3) := by decide +kernel
theorem dX6_reason_71 : decode cX6_reason 71 = .ok (.aload_n 0, 1) := by decide +kernel
theorem dX6_reason_72 : decode cX6_reason 72 = .ok (.iload_n 1, 1) := by decide +kernel
theorem dX6_reason_73 : decode cX6_reason 73 = .ok (.invokevirtual 109, 3) := by decide +kernel
theorem dX6_reason_76 : decode cX6_reason 76 = .ok (.lstore 8, 2) := by decide +kernel
theorem dX6_reason_78 : decode cX6_reason 78 = .ok (.goto 150, 3) := by decide +kernel
theorem dX6_reason_81 : decode cX6_reason 81 = .ok (.iload_n 2, 1) := by decide +kernel
theorem dX6_reason_82 : decode cX6_reason 82 = .ok (.iconst 2, 1) := by decide +kernel
theorem dX6_reason_83 : decode cX6_reason 83 = .ok (.isub, 1) := by decide +kernel
theorem dX6_reason_84 : decode cX6_reason 84 = .ok (.istore 11, 2) := by decide +kernel
theorem dX6_reason_86 : decode cX6_reason 86 = .ok (.iconst 0, 1) := by decide +kernel
theorem dX6_reason_87 : decode cX6_reason 87 = .ok (.istore 12, 2) := by decide +kernel
theorem dX6_reason_89 : decode cX6_reason 89 = .ok (.iconst 1, 1) := by decide +kernel
theorem dX6_reason_90 : decode cX6_reason 90 = .ok (.istore 13, 2) := by decide +kernel
theorem dX6_reason_92 : decode cX6_reason 92 = .ok (.iload 13, 2) := by decide +kernel
theorem dX6_reason_94 : decode cX6_reason 94 = .ok (.aload_n 0, 1) := by decide +kernel
theorem dX6_reason_95 : decode cX6_reason 95 = .ok (.getfield 67, 3) := by decide +kernel
theorem dX6_reason_98 : decode cX6_reason 98 = .ok (.if_icmp .gt 46, 3) := by decide +kernel
theorem dX6_reason_101 : decode cX6_reason 101 = .ok (.iload 13, 2) := by decide +kernel
theorem dX6_reason_103 : decode cX6_reason 103 = .ok (.iload_n 1, 1) := by decide +kernel
theorem dX6_reason_104 : decode cX6_reason 104 = .ok (.if_icmp .eq 34, 3) := by decide +kernel
theorem dX6_reason_107 : decode cX6_reason 107 = .ok (.aload_n 0, 1) := by decide +kernel
theorem dX6_reason_108 : decode cX6_reason 108 = .ok (.getfield 16, 3) := by decide +kernel
theorem dX6_reason_111 : decode cX6_reason 111 = .ok (.iload 13, 2) := by decide +kernel
theorem dX6_reason_113 : decode cX6_reason 113 = .ok (.iaload, 1) := by decide +kernel
theorem dX6_reason_114 : decode cX6_reason 114 = .ok (.aload_n 0, 1) := by decide +kernel
theorem dX6_reason_115 : decode cX6_reason 115 = .ok (.getfield 16, 3) := by decide +kernel
theorem dX6_reason_118 : decode cX6_reason 118 = .ok (.iload_n 1, 1) := by decide +kernel
theorem dX6_reason_119 : decode cX6_reason 119 = .ok (.iaload, 1) := by decide +kernel
theorem dX6_reason_120 : decode cX6_reason 120 = .ok (.if_icmp .ge 6, 3) := by decide +kernel
theorem dX6_reason_123 : decode cX6_reason 123 = .ok (.goto 15, 3) := by decide +kernel
theorem dX6_reason_126 : decode cX6_reason 126 = .ok (.iload 11, 2) := by decide +kernel
theorem dX6_reason_128 : decode cX6_reason 128 = .ok (.ifCond .ne 7, 3) := by decide +kernel
theorem dX6_reason_131 : decode cX6_reason 131 = .ok (.iload 13, 2) := by decide +kernel
theorem dX6_reason_133 : decode cX6_reason 133 = .ok (.istore 12, 2) := by decide +kernel
theorem dX6_reason_135 : decode cX6_reason 135 = .ok (.iinc 11 (-1), 3) := by decide +kernel
theorem dX6_reason_138 : decode cX6_reason 138 = .ok (.iinc 13 1, 3) := by decide +kernel
theorem dX6_reason_141 : decode cX6_reason 141 = .ok (.goto (-49), 3) := by decide +kernel
theorem dX6_reason_144 : decode cX6_reason 144 = .ok (.iload 12, 2) := by decide +kernel
theorem dX6_reason_146 : decode cX6_reason 146 = .ok (.ifCond .le 31, 3) := by decide +kernel
theorem dX6_reason_149 : decode cX6_reason 149 = .ok (.aload_n 0, 1) := by decide +kernel
theorem dX6_reason_150 : decode cX6_reason 150 = .ok (.iload 12, 2) := by decide +kernel
theorem dX6_reason_152 : decode cX6_reason 152 = .ok (.lload 4, 2) := by decide +kernel
theorem dX6_reason_154 : decode cX6_reason 154 = .ok (.invokevirtual 105, 3) := by decide +kernel
theorem dX6_reason_157 : decode cX6_reason 157 = .ok (.lstore 6, 2) := by decide +kernel
theorem dX6_reason_159 : decode cX6_reason 159 = .ok (.lload 6, 2) := by decide +kernel
theorem dX6_reason_161 : decode cX6_reason 161 = .ok (.aload_n 0, 1) := by decide +kernel
theorem dX6_reason_162 : decode cX6_reason 162 = .ok (.iload 12, 2) := by decide +kernel
theorem dX6_reason_164 : decode cX6_reason 164 = .ok (.invokevirtual 101, 3) := by decide +kernel
theorem dX6_reason_167 : decode cX6_reason 167 = .ok (.lmul, 1) := by decide +kernel
theorem dX6_reason_168 : decode cX6_reason 168 = .ok (.lstore 8, 2) := by decide +kernel
theorem dX6_reason_170 : decode cX6_reason 170 = .ok (.iload 12, 2) := by decide +kernel
theorem dX6_reason_172 : decode cX6_reason 172 = .ok (.istore 10, 2) := by decide +kernel
theorem dX6_reason_174 : decode cX6_reason 174 = .ok (.goto 54, 3) := by decide +kernel
theorem dX6_reason_177 : decode cX6_reason 177 = .ok (.iload 11, 2) := by decide +kernel
theorem dX6_reason_179 : decode cX6_reason 179 = .ok (.aload_n 0, 1) := by decide +kernel
theorem dX6_reason_180 : decode cX6_reason 180 = .ok (.getfield 90, 3) := by decide +kernel
theorem dX6_reason_183 : decode cX6_reason 183 = .ok (.if_icmp .ge 43, 3) := by decide +kernel
theorem dX6_reason_186 : decode cX6_reason 186 = .ok (.lload 4, 2) := by decide +kernel
theorem dX6_reason_188 : decode cX6_reason 188 = .ok (.aload_n 0, 1) := by decide +kernel
theorem dX6_reason_189 : decode cX6_reason 189 = .ok (.getfield 47, 3) := by decide +kernel
theorem dX6_reason_192 : decode cX6_reason 192 = .ok (.iload 11, 2) := by decide +kernel
theorem dX6_reason_194 : decode cX6_reason 194 = .ok (.iconst 1, 1) := by decide +kernel
theorem dX6_reason_195 : decode cX6_reason 195 = .ok (.iadd, 1) := by decide +kernel
theorem dX6_reason_196 : decode cX6_reason 196 = .ok (.laload, 1) := by decide +kernel
theorem dX6_reason_197 : decode cX6_reason 197 = .ok (.invokestatic 93, 3) := by decide +kernel
theorem dX6_reason_200 : decode cX6_reason 200 = .ok (.lstore 6, 2) := by decide +kernel
theorem dX6_reason_202 : decode cX6_reason 202 = .ok (.lload 6, 2) := by decide +kernel
theorem dX6_reason_204 : decode cX6_reason 204 = .ok (.aload_n 0, 1) := by decide +kernel
theorem dX6_reason_205 : decode cX6_reason 205 = .ok (.getfield 44, 3) := by decide +kernel
theorem dX6_reason_208 : decode cX6_reason 208 = .ok (.iload 11, 2) := by decide +kernel
theorem dX6_reason_210 : decode cX6_reason 210 = .ok (.iconst 1, 1) := by decide +kernel
theorem dX6_reason_211 : decode cX6_reason 211 = .ok (.iadd, 1) := by decide +kernel
theorem dX6_reason_212 : decode cX6_reason 212 = .ok (.laload, 1) := by decide +kernel
theorem dX6_reason_213 : decode cX6_reason 213 = .ok (.lmul, 1) := by decide +kernel
theorem dX6_reason_214 : decode cX6_reason 214 = .ok (.lstore 8, 2) := by decide +kernel
theorem dX6_reason_216 : decode cX6_reason 216 = .ok (.iload 11, 2) := by decide +kernel
theorem dX6_reason_218 : decode cX6_reason 218 = .ok (.ineg, 1) := by decide +kernel
theorem dX6_reason_219 : decode cX6_reason 219 = .ok (.iconst 1, 1) := by decide +kernel
theorem dX6_reason_220 : decode cX6_reason 220 = .ok (.isub, 1) := by decide +kernel
theorem dX6_reason_221 : decode cX6_reason 221 = .ok (.istore 10, 2) := by decide +kernel
theorem dX6_reason_223 : decode cX6_reason 223 = .ok (.goto 5, 3) := by decide +kernel
theorem dX6_reason_226 : decode cX6_reason 226 = .ok (.iconst (-1), 1) := by decide +kernel
theorem dX6_reason_227 : decode cX6_reason 227 = .ok (.ireturn, 1) := by decide +kernel
theorem dX6_reason_228 : decode cX6_reason 228 = .ok (.iload_n 3, 1) := by decide +kernel
theorem dX6_reason_229 : decode cX6_reason 229 = .ok (.ifCond .ne 9, 3) := by decide +kernel
theorem dX6_reason_232 : decode cX6_reason 232 = .ok (.lload 6, 2) := by decide +kernel
theorem dX6_reason_234 : decode cX6_reason 234 = .ok (.l2i, 1) := by decide +kernel
theorem dX6_reason_235 : decode cX6_reason 235 = .ok (.goto 26, 3) := by decide +kernel
theorem dX6_reason_238 : decode cX6_reason 238 = .ok (.iload_n 3, 1) := by decide +kernel
theorem dX6_reason_239 : decode cX6_reason 239 = .ok (.iconst 1, 1) := by decide +kernel
theorem dX6_reason_240 : decode cX6_reason 240 = .ok (.if_icmp .ne 9, 3) := by decide +kernel
theorem dX6_reason_243 : decode cX6_reason 243 = .ok (.lload 8, 2) := by decide +kernel
theorem dX6_reason_245 : decode cX6_reason 245 = .ok (.l2i, 1) := by decide +kernel
theorem dX6_reason_246 : decode cX6_reason 246 = .ok (.goto 15, 3) := by decide +kernel
theorem dX6_reason_249 : decode cX6_reason 249 = .ok (.iload_n 3, 1) := by decide +kernel
theorem dX6_reason_250 : decode cX6_reason 250 = .ok (.iconst 2, 1) := by decide +kernel
theorem dX6_reason_251 : decode cX6_reason 251 = .ok (.if_icmp .ne 8, 3) := by decide +kernel
theorem dX6_reason_254 : decode cX6_reason 254 = .ok (.iload 10, 2) := by decide +kernel
theorem dX6_reason_256 : decode cX6_reason 256 = .ok (.goto 5, 3) := by decide +kernel
theorem dX6_reason_259 : decode cX6_reason 259 = .ok (.bipush (-2), 2) := by decide +kernel
theorem dX6_reason_261 : decode cX6_reason 261 = .ok (.ireturn, 1) := by decide +kernel
theorem dX6_allAnswer_0 : decode cX6_allAnswer 0 = .ok (.iconst 1, 1) := by decide +kernel
theorem dX6_allAnswer_1 : decode cX6_allAnswer 1 = .ok (.istore_n 1, 1) := by decide +kernel
theorem dX6_allAnswer_2 : decode cX6_allAnswer 2 = .ok (.iconst 1, 1) := by decide +kernel
theorem dX6_allAnswer_3 : decode cX6_allAnswer 3 = .ok (.istore_n 2, 1) := by decide +kernel
theorem dX6_allAnswer_4 : decode cX6_allAnswer 4 = .ok (.iload_n 2, 1) := by decide +kernel
theorem dX6_allAnswer_5 : decode cX6_allAnswer 5 = .ok (.aload_n 0, 1) := by decide +kernel
theorem dX6_allAnswer_6 : decode cX6_allAnswer 6 = .ok (.getfield 67, 3) := by decide +kernel
theorem dX6_allAnswer_9 : decode cX6_allAnswer 9 = .ok (.if_icmp .gt 29, 3) := by decide +kernel
theorem dX6_allAnswer_12 : decode cX6_allAnswer 12 = .ok (.iload_n 1, 1) := by decide +kernel
theorem dX6_allAnswer_13 : decode cX6_allAnswer 13 = .ok (.ifCond .eq 25, 3) := by decide +kernel
theorem dX6_allAnswer_16 : decode cX6_allAnswer 16 = .ok (.aload_n 0, 1) := by decide +kernel
theorem dX6_allAnswer_17 : decode cX6_allAnswer 17 = .ok (.iload_n 2, 1) := by decide +kernel
theorem dX6_allAnswer_18 : decode cX6_allAnswer 18 = .ok (.invokevirtual 129, 3) := by decide +kernel
theorem dX6_allAnswer_21 : decode cX6_allAnswer 21 = .ok (.lconst 0, 1) := by decide +kernel
theorem dX6_allAnswer_22 : decode cX6_allAnswer 22 = .ok (.lcmp, 1) := by decide +kernel
theorem dX6_allAnswer_23 : decode cX6_allAnswer 23 = .ok (.ifCond .lt 7, 3) := by decide +kernel
theorem dX6_allAnswer_26 : decode cX6_allAnswer 26 = .ok (.iconst 1, 1) := by decide +kernel
theorem dX6_allAnswer_27 : decode cX6_allAnswer 27 = .ok (.goto 4, 3) := by decide +kernel
theorem dX6_allAnswer_30 : decode cX6_allAnswer 30 = .ok (.iconst 0, 1) := by decide +kernel
theorem dX6_allAnswer_31 : decode cX6_allAnswer 31 = .ok (.istore_n 1, 1) := by decide +kernel
theorem dX6_allAnswer_32 : decode cX6_allAnswer 32 = .ok (.iinc 2 1, 3) := by decide +kernel
theorem dX6_allAnswer_35 : decode cX6_allAnswer 35 = .ok (.goto (-31), 3) := by decide +kernel
theorem dX6_allAnswer_38 : decode cX6_allAnswer 38 = .ok (.iload_n 1, 1) := by decide +kernel
theorem dX6_allAnswer_39 : decode cX6_allAnswer 39 = .ok (.ireturn, 1) := by decide +kernel
theorem dX6_longer_0 : decode cX6_longer 0 = .ok (.aload_n 0, 1) := by decide +kernel
theorem dX6_longer_1 : decode cX6_longer 1 = .ok (.iconst 0, 1) := by decide +kernel
theorem dX6_longer_2 : decode cX6_longer 2 = .ok (.putfield 63, 3) := by decide +kernel
theorem dX6_longer_5 : decode cX6_longer 5 = .ok (.aload_n 0, 1) := by decide +kernel
theorem dX6_longer_6 : decode cX6_longer 6 = .ok (.iload_n 1, 1) := by decide +kernel
theorem dX6_longer_7 : decode cX6_longer 7 = .ok (.invokevirtual 82, 3) := by decide +kernel
theorem dX6_longer_10 : decode cX6_longer 10 = .ok (.ifCond .ne 7, 3) := by decide +kernel
theorem dX6_longer_13 : decode cX6_longer 13 = .ok (.ldc2_w 132, 3) := by decide +kernel
theorem dX6_longer_16 : decode cX6_longer 16 = .ok (.lreturn, 1) := by decide +kernel
theorem dX6_longer_17 : decode cX6_longer 17 = .ok (.aload_n 0, 1) := by decide +kernel
theorem dX6_longer_18 : decode cX6_longer 18 = .ok (.invokevirtual 134, 3) := by decide +kernel
theorem dX6_longer_21 : decode cX6_longer 21 = .ok (.ifCond .ne 7, 3) := by decide +kernel
theorem dX6_longer_24 : decode cX6_longer 24 = .ok (.ldc2_w 80, 3) := by decide +kernel
theorem dX6_longer_27 : decode cX6_longer 27 = .ok (.lreturn, 1) := by decide +kernel
theorem dX6_longer_28 : decode cX6_longer 28 = .ok (.aload_n 0, 1) := by decide +kernel
theorem dX6_longer_29 : decode cX6_longer 29 = .ok (.getfield 7, 3) := by decide +kernel
theorem dX6_longer_32 : decode cX6_longer 32 = .ok (.iload_n 1, 1) := by decide +kernel
theorem dX6_longer_33 : decode cX6_longer 33 = .ok (.laload, 1) := by decide +kernel
theorem dX6_longer_34 : decode cX6_longer 34 = .ok (.lstore_n 2, 1) := by decide +kernel
theorem dX6_longer_35 : decode cX6_longer 35 = .ok (.lload_n 2, 1) := by decide +kernel
theorem dX6_longer_36 : decode cX6_longer 36 = .ok (.lstore 4, 2) := by decide +kernel
theorem dX6_longer_38 : decode cX6_longer 38 = .ok (.ldc2_w 138, 3) := by decide +kernel
theorem dX6_longer_41 : decode cX6_longer 41 = .ok (.lstore 6, 2) := by decide +kernel
theorem dX6_longer_43 : decode cX6_longer 43 = .ok (.lload 6, 2) := by decide +kernel
theorem dX6_longer_45 : decode cX6_longer 45 = .ok (.lload 4, 2) := by decide +kernel
theorem dX6_longer_47 : decode cX6_longer 47 = .ok (.lsub, 1) := by decide +kernel
theorem dX6_longer_48 : decode cX6_longer 48 = .ok (.lconst 1, 1) := by decide +kernel
theorem dX6_longer_49 : decode cX6_longer 49 = .ok (.lcmp, 1) := by decide +kernel
theorem dX6_longer_50 : decode cX6_longer 50 = .ok (.ifCond .le 47, 3) := by decide +kernel
theorem dX6_longer_53 : decode cX6_longer 53 = .ok (.aload_n 0, 1) := by decide +kernel
theorem dX6_longer_54 : decode cX6_longer 54 = .ok (.getfield 7, 3) := by decide +kernel
theorem dX6_longer_57 : decode cX6_longer 57 = .ok (.iload_n 1, 1) := by decide +kernel
theorem dX6_longer_58 : decode cX6_longer 58 = .ok (.lload 4, 2) := by decide +kernel
theorem dX6_longer_60 : decode cX6_longer 60 = .ok (.lload 6, 2) := by decide +kernel
theorem dX6_longer_62 : decode cX6_longer 62 = .ok (.ladd, 1) := by decide +kernel
theorem dX6_longer_63 : decode cX6_longer 63 = .ok (.ldc2_w 140, 3) := by decide +kernel
theorem dX6_longer_66 : decode cX6_longer 66 = .ok (.ldiv, 1) := by decide +kernel
theorem dX6_longer_67 : decode cX6_longer 67 = .ok (.lastore, 1) := by decide +kernel
theorem dX6_longer_68 : decode cX6_longer 68 = .ok (.aload_n 0, 1) := by decide +kernel
theorem dX6_longer_69 : decode cX6_longer 69 = .ok (.invokevirtual 134, 3) := by decide +kernel
theorem dX6_longer_72 : decode cX6_longer 72 = .ok (.ifCond .eq 14, 3) := by decide +kernel
theorem dX6_longer_75 : decode cX6_longer 75 = .ok (.aload_n 0, 1) := by decide +kernel
theorem dX6_longer_76 : decode cX6_longer 76 = .ok (.getfield 7, 3) := by decide +kernel
theorem dX6_longer_79 : decode cX6_longer 79 = .ok (.iload_n 1, 1) := by decide +kernel
theorem dX6_longer_80 : decode cX6_longer 80 = .ok (.laload, 1) := by decide +kernel
theorem dX6_longer_81 : decode cX6_longer 81 = .ok (.lstore 4, 2) := by decide +kernel
theorem dX6_longer_83 : decode cX6_longer 83 = .ok (.goto (-40), 3) := by decide +kernel
theorem dX6_longer_86 : decode cX6_longer 86 = .ok (.aload_n 0, 1) := by decide +kernel
theorem dX6_longer_87 : decode cX6_longer 87 = .ok (.getfield 7, 3) := by decide +kernel
theorem dX6_longer_90 : decode cX6_longer 90 = .ok (.iload_n 1, 1) := by decide +kernel
theorem dX6_longer_91 : decode cX6_longer 91 = .ok (.laload, 1) := by decide +kernel
theorem dX6_longer_92 : decode cX6_longer 92 = .ok (.lstore 6, 2) := by decide +kernel
theorem dX6_longer_94 : decode cX6_longer 94 = .ok (.goto (-51), 3) := by decide +kernel
theorem dX6_longer_97 : decode cX6_longer 97 = .ok (.aload_n 0, 1) := by decide +kernel
theorem dX6_longer_98 : decode cX6_longer 98 = .ok (.getfield 7, 3) := by decide +kernel
theorem dX6_longer_101 : decode cX6_longer 101 = .ok (.iload_n 1, 1) := by decide +kernel
theorem dX6_longer_102 : decode cX6_longer 102 = .ok (.lload_n 2, 1) := by decide +kernel
theorem dX6_longer_103 : decode cX6_longer 103 = .ok (.lastore, 1) := by decide +kernel
theorem dX6_longer_104 : decode cX6_longer 104 = .ok (.lload 4, 2) := by decide +kernel
theorem dX6_longer_106 : decode cX6_longer 106 = .ok (.lload_n 2, 1) := by decide +kernel
theorem dX6_longer_107 : decode cX6_longer 107 = .ok (.lsub, 1) := by decide +kernel
theorem dX6_longer_108 : decode cX6_longer 108 = .ok (.lreturn, 1) := by decide +kernel
theorem dX6_load_0 : decode cX6_load 0 = .ok (.lconst 0, 1) := by decide +kernel
theorem dX6_load_1 : decode cX6_load 1 = .ok (.lstore_n 1, 1) := by decide +kernel
theorem dX6_load_2 : decode cX6_load 2 = .ok (.iconst 1, 1) := by decide +kernel
theorem dX6_load_3 : decode cX6_load 3 = .ok (.istore_n 3, 1) := by decide +kernel
theorem dX6_load_4 : decode cX6_load 4 = .ok (.iload_n 3, 1) := by decide +kernel
theorem dX6_load_5 : decode cX6_load 5 = .ok (.aload_n 0, 1) := by decide +kernel
theorem dX6_load_6 : decode cX6_load 6 = .ok (.getfield 67, 3) := by decide +kernel
theorem dX6_load_9 : decode cX6_load 9 = .ok (.if_icmp .gt 36, 3) := by decide +kernel
theorem dX6_load_12 : decode cX6_load 12 = .ok (.lload_n 1, 1) := by decide +kernel
theorem dX6_load_13 : decode cX6_load 13 = .ok (.ldc2_w 142, 3) := by decide +kernel
theorem dX6_load_16 : decode cX6_load 16 = .ok (.aload_n 0, 1) := by decide +kernel
theorem dX6_load_17 : decode cX6_load 17 = .ok (.getfield 23, 3) := by decide +kernel
theorem dX6_load_20 : decode cX6_load 20 = .ok (.iload_n 3, 1) := by decide +kernel
theorem dX6_load_21 : decode cX6_load 21 = .ok (.iaload, 1) := by decide +kernel
theorem dX6_load_22 : decode cX6_load 22 = .ok (.i2l, 1) := by decide +kernel
theorem dX6_load_23 : decode cX6_load 23 = .ok (.lmul, 1) := by decide +kernel
theorem dX6_load_24 : decode cX6_load 24 = .ok (.aload_n 0, 1) := by decide +kernel
theorem dX6_load_25 : decode cX6_load 25 = .ok (.iload_n 3, 1) := by decide +kernel
theorem dX6_load_26 : decode cX6_load 26 = .ok (.invokevirtual 101, 3) := by decide +kernel
theorem dX6_load_29 : decode cX6_load 29 = .ok (.lmul, 1) := by decide +kernel
theorem dX6_load_30 : decode cX6_load 30 = .ok (.aload_n 0, 1) := by decide +kernel
theorem dX6_load_31 : decode cX6_load 31 = .ok (.getfield 13, 3) := by decide +kernel
theorem dX6_load_34 : decode cX6_load 34 = .ok (.iload_n 3, 1) := by decide +kernel
theorem dX6_load_35 : decode cX6_load 35 = .ok (.laload, 1) := by decide +kernel
theorem dX6_load_36 : decode cX6_load 36 = .ok (.ldiv, 1) := by decide +kernel
theorem dX6_load_37 : decode cX6_load 37 = .ok (.ladd, 1) := by decide +kernel
theorem dX6_load_38 : decode cX6_load 38 = .ok (.lstore_n 1, 1) := by decide +kernel
theorem dX6_load_39 : decode cX6_load 39 = .ok (.iinc 3 1, 3) := by decide +kernel
theorem dX6_load_42 : decode cX6_load 42 = .ok (.goto (-38), 3) := by decide +kernel
theorem dX6_load_45 : decode cX6_load 45 = .ok (.iconst 1, 1) := by decide +kernel
theorem dX6_load_46 : decode cX6_load 46 = .ok (.istore_n 3, 1) := by decide +kernel
theorem dX6_load_47 : decode cX6_load 47 = .ok (.iload_n 3, 1) := by decide +kernel
theorem dX6_load_48 : decode cX6_load 48 = .ok (.aload_n 0, 1) := by decide +kernel
theorem dX6_load_49 : decode cX6_load 49 = .ok (.getfield 90, 3) := by decide +kernel
theorem dX6_load_52 : decode cX6_load 52 = .ok (.if_icmp .gt 29, 3) := by decide +kernel
theorem dX6_load_55 : decode cX6_load 55 = .ok (.lload_n 1, 1) := by decide +kernel
theorem dX6_load_56 : decode cX6_load 56 = .ok (.ldc2_w 142, 3) := by decide +kernel
theorem dX6_load_59 : decode cX6_load 59 = .ok (.aload_n 0, 1) := by decide +kernel
theorem dX6_load_60 : decode cX6_load 60 = .ok (.getfield 44, 3) := by decide +kernel
theorem dX6_load_63 : decode cX6_load 63 = .ok (.iload_n 3, 1) := by decide +kernel
theorem dX6_load_64 : decode cX6_load 64 = .ok (.laload, 1) := by decide +kernel
theorem dX6_load_65 : decode cX6_load 65 = .ok (.lmul, 1) := by decide +kernel
theorem dX6_load_66 : decode cX6_load 66 = .ok (.aload_n 0, 1) := by decide +kernel
theorem dX6_load_67 : decode cX6_load 67 = .ok (.getfield 47, 3) := by decide +kernel
theorem dX6_load_70 : decode cX6_load 70 = .ok (.iload_n 3, 1) := by decide +kernel
theorem dX6_load_71 : decode cX6_load 71 = .ok (.laload, 1) := by decide +kernel
theorem dX6_load_72 : decode cX6_load 72 = .ok (.ldiv, 1) := by decide +kernel
theorem dX6_load_73 : decode cX6_load 73 = .ok (.ladd, 1) := by decide +kernel
theorem dX6_load_74 : decode cX6_load 74 = .ok (.lstore_n 1, 1) := by decide +kernel
theorem dX6_load_75 : decode cX6_load 75 = .ok (.iinc 3 1, 3) := by decide +kernel
theorem dX6_load_78 : decode cX6_load 78 = .ok (.goto (-31), 3) := by decide +kernel
theorem dX6_load_81 : decode cX6_load 81 = .ok (.lload_n 1, 1) := by decide +kernel
theorem dX6_load_82 : decode cX6_load 82 = .ok (.lreturn, 1) := by decide +kernel
theorem dX6_busy_0 : decode cX6_busy 0 = .ok (.aload_n 0, 1) := by decide +kernel
theorem dX6_busy_1 : decode cX6_busy 1 = .ok (.iconst 0, 1) := by decide +kernel
theorem dX6_busy_2 : decode cX6_busy 2 = .ok (.putfield 63, 3) := by decide +kernel
theorem dX6_busy_5 : decode cX6_busy 5 = .ok (.iload_n 1, 1) := by decide +kernel
theorem dX6_busy_6 : decode cX6_busy 6 = .ok (.ifCond .ne 8, 3) := by decide +kernel
theorem dX6_busy_9 : decode cX6_busy 9 = .ok (.aload_n 0, 1) := by decide +kernel
theorem dX6_busy_10 : decode cX6_busy 10 = .ok (.invokevirtual 144, 3) := by decide +kernel
theorem dX6_busy_13 : decode cX6_busy 13 = .ok (.lreturn, 1) := by decide +kernel
theorem dX6_busy_14 : decode cX6_busy 14 = .ok (.lconst 0, 1) := by decide +kernel
theorem dX6_busy_15 : decode cX6_busy 15 = .ok (.lstore_n 2, 1) := by decide +kernel
theorem dX6_busy_16 : decode cX6_busy 16 = .ok (.lconst 0, 1) := by decide +kernel
theorem dX6_busy_17 : decode cX6_busy 17 = .ok (.lstore 4, 2) := by decide +kernel
theorem dX6_busy_19 : decode cX6_busy 19 = .ok (.iconst 1, 1) := by decide +kernel
theorem dX6_busy_20 : decode cX6_busy 20 = .ok (.istore 6, 2) := by decide +kernel
theorem dX6_busy_22 : decode cX6_busy 22 = .ok (.iload 6, 2) := by decide +kernel
theorem dX6_busy_24 : decode cX6_busy 24 = .ok (.aload_n 0, 1) := by decide +kernel
theorem dX6_busy_25 : decode cX6_busy 25 = .ok (.getfield 67, 3) := by decide +kernel
theorem dX6_busy_28 : decode cX6_busy 28 = .ok (.if_icmp .gt 49, 3) := by decide +kernel
theorem dX6_busy_31 : decode cX6_busy 31 = .ok (.aload_n 0, 1) := by decide +kernel
theorem dX6_busy_32 : decode cX6_busy 32 = .ok (.iload 6, 2) := by decide +kernel
theorem dX6_busy_34 : decode cX6_busy 34 = .ok (.invokevirtual 129, 3) := by decide +kernel
theorem dX6_busy_37 : decode cX6_busy 37 = .ok (.lstore 7, 2) := by decide +kernel
theorem dX6_busy_39 : decode cX6_busy 39 = .ok (.lload_n 2, 1) := by decide +kernel
theorem dX6_busy_40 : decode cX6_busy 40 = .ok (.lload 7, 2) := by decide +kernel
theorem dX6_busy_42 : decode cX6_busy 42 = .ok (.lconst 0, 1) := by decide +kernel
theorem dX6_busy_43 : decode cX6_busy 43 = .ok (.lcmp, 1) := by decide +kernel
theorem dX6_busy_44 : decode cX6_busy 44 = .ok (.ifCond .lt 7, 3) := by decide +kernel
theorem dX6_busy_47 : decode cX6_busy 47 = .ok (.lconst 1, 1) := by decide +kernel
theorem dX6_busy_48 : decode cX6_busy 48 = .ok (.goto 4, 3) := by decide +kernel
theorem dX6_busy_51 : decode cX6_busy 51 = .ok (.lconst 0, 1) := by decide +kernel
theorem dX6_busy_52 : decode cX6_busy 52 = .ok (.ladd, 1) := by decide +kernel
theorem dX6_busy_53 : decode cX6_busy 53 = .ok (.lstore_n 2, 1) := by decide +kernel
theorem dX6_busy_54 : decode cX6_busy 54 = .ok (.lload 7, 2) := by decide +kernel
theorem dX6_busy_56 : decode cX6_busy 56 = .ok (.lload 4, 2) := by decide +kernel
theorem dX6_busy_58 : decode cX6_busy 58 = .ok (.lcmp, 1) := by decide +kernel
theorem dX6_busy_59 : decode cX6_busy 59 = .ok (.ifCond .le 8, 3) := by decide +kernel
theorem dX6_busy_62 : decode cX6_busy 62 = .ok (.lload 7, 2) := by decide +kernel
theorem dX6_busy_64 : decode cX6_busy 64 = .ok (.goto 5, 3) := by decide +kernel
theorem dX6_busy_67 : decode cX6_busy 67 = .ok (.lload 4, 2) := by decide +kernel
theorem dX6_busy_69 : decode cX6_busy 69 = .ok (.lstore 4, 2) := by decide +kernel
theorem dX6_busy_71 : decode cX6_busy 71 = .ok (.iinc 6 1, 3) := by decide +kernel
theorem dX6_busy_74 : decode cX6_busy 74 = .ok (.goto (-52), 3) := by decide +kernel
theorem dX6_busy_77 : decode cX6_busy 77 = .ok (.iload_n 1, 1) := by decide +kernel
theorem dX6_busy_78 : decode cX6_busy 78 = .ok (.iconst 1, 1) := by decide +kernel
theorem dX6_busy_79 : decode cX6_busy 79 = .ok (.if_icmp .ne 7, 3) := by decide +kernel
theorem dX6_busy_82 : decode cX6_busy 82 = .ok (.lload_n 2, 1) := by decide +kernel
theorem dX6_busy_83 : decode cX6_busy 83 = .ok (.goto 5, 3) := by decide +kernel
theorem dX6_busy_86 : decode cX6_busy 86 = .ok (.lload 4, 2) := by decide +kernel
theorem dX6_busy_88 : decode cX6_busy 88 = .ok (.lreturn, 1) := by decide +kernel
theorem dX6_common_0 : decode cX6_common 0 = .ok (.lload_n 0, 1) := by decide +kernel
theorem dX6_common_1 : decode cX6_common 1 = .ok (.lstore 4, 2) := by decide +kernel
theorem dX6_common_3 : decode cX6_common 3 = .ok (.lload_n 2, 1) := by decide +kernel
theorem dX6_common_4 : decode cX6_common 4 = .ok (.lstore 6, 2) := by decide +kernel
theorem dX6_common_6 : decode cX6_common 6 = .ok (.lload 6, 2) := by decide +kernel
theorem dX6_common_8 : decode cX6_common 8 = .ok (.lconst 0, 1) := by decide +kernel
theorem dX6_common_9 : decode cX6_common 9 = .ok (.lcmp, 1) := by decide +kernel
theorem dX6_common_10 : decode cX6_common 10 = .ok (.ifCond .eq 21, 3) := by decide +kernel
theorem dX6_common_13 : decode cX6_common 13 = .ok (.lload 4, 2) := by decide +kernel
theorem dX6_common_15 : decode cX6_common 15 = .ok (.lload 6, 2) := by decide +kernel
theorem dX6_common_17 : decode cX6_common 17 = .ok (.lrem, 1) := by decide +kernel
theorem dX6_common_18 : decode cX6_common 18 = .ok (.lstore 8, 2) := by decide +kernel
theorem dX6_common_20 : decode cX6_common 20 = .ok (.lload 6, 2) := by decide +kernel
theorem dX6_common_22 : decode cX6_common 22 = .ok (.lstore 4, 2) := by decide +kernel
theorem dX6_common_24 : decode cX6_common 24 = .ok (.lload 8, 2) := by decide +kernel
theorem dX6_common_26 : decode cX6_common 26 = .ok (.lstore 6, 2) := by decide +kernel
theorem dX6_common_28 : decode cX6_common 28 = .ok (.goto (-22), 3) := by decide +kernel
theorem dX6_common_31 : decode cX6_common 31 = .ok (.lload_n 0, 1) := by decide +kernel
theorem dX6_common_32 : decode cX6_common 32 = .ok (.lload 4, 2) := by decide +kernel
theorem dX6_common_34 : decode cX6_common 34 = .ok (.ldiv, 1) := by decide +kernel
theorem dX6_common_35 : decode cX6_common 35 = .ok (.lload_n 2, 1) := by decide +kernel
theorem dX6_common_36 : decode cX6_common 36 = .ok (.lmul, 1) := by decide +kernel
theorem dX6_common_37 : decode cX6_common 37 = .ok (.lreturn, 1) := by decide +kernel
theorem dX6_longest_0 : decode cX6_longest 0 = .ok (.iconst 1, 1) := by decide +kernel
theorem dX6_longest_1 : decode cX6_longest 1 = .ok (.istore 4, 2) := by decide +kernel
theorem dX6_longest_3 : decode cX6_longest 3 = .ok (.iload 4, 2) := by decide +kernel
theorem dX6_longest_5 : decode cX6_longest 5 = .ok (.aload_n 0, 1) := by decide +kernel
theorem dX6_longest_6 : decode cX6_longest 6 = .ok (.getfield 67, 3) := by decide +kernel
theorem dX6_longest_9 : decode cX6_longest 9 = .ok (.if_icmp .gt 39, 3) := by decide +kernel
theorem dX6_longest_12 : decode cX6_longest 12 = .ok (.aload_n 0, 1) := by decide +kernel
theorem dX6_longest_13 : decode cX6_longest 13 = .ok (.getfield 53, 3) := by decide +kernel
theorem dX6_longest_16 : decode cX6_longest 16 = .ok (.iload 4, 2) := by decide +kernel
theorem dX6_longest_18 : decode cX6_longest 18 = .ok (.lconst 0, 1) := by decide +kernel
theorem dX6_longest_19 : decode cX6_longest 19 = .ok (.lastore, 1) := by decide +kernel
theorem dX6_longest_20 : decode cX6_longest 20 = .ok (.aload_n 0, 1) := by decide +kernel
theorem dX6_longest_21 : decode cX6_longest 21 = .ok (.getfield 56, 3) := by decide +kernel
theorem dX6_longest_24 : decode cX6_longest 24 = .ok (.iload 4, 2) := by decide +kernel
theorem dX6_longest_26 : decode cX6_longest 26 = .ok (.aload_n 0, 1) := by decide +kernel
theorem dX6_longest_27 : decode cX6_longest 27 = .ok (.getfield 7, 3) := by decide +kernel
theorem dX6_longest_30 : decode cX6_longest 30 = .ok (.iload 4, 2) := by decide +kernel
theorem dX6_longest_32 : decode cX6_longest 32 = .ok (.laload, 1) := by decide +kernel
theorem dX6_longest_33 : decode cX6_longest 33 = .ok (.lastore, 1) := by decide +kernel
theorem dX6_longest_34 : decode cX6_longest 34 = .ok (.aload_n 0, 1) := by decide +kernel
theorem dX6_longest_35 : decode cX6_longest 35 = .ok (.getfield 59, 3) := by decide +kernel
theorem dX6_longest_38 : decode cX6_longest 38 = .ok (.iload 4, 2) := by decide +kernel
theorem dX6_longest_40 : decode cX6_longest 40 = .ok (.iconst 0, 1) := by decide +kernel
theorem dX6_longest_41 : decode cX6_longest 41 = .ok (.bastore, 1) := by decide +kernel
theorem dX6_longest_42 : decode cX6_longest 42 = .ok (.iinc 4 1, 3) := by decide +kernel
theorem dX6_longest_45 : decode cX6_longest 45 = .ok (.goto (-42), 3) := by decide +kernel
theorem dX6_longest_48 : decode cX6_longest 48 = .ok (.lconst 0, 1) := by decide +kernel
theorem dX6_longest_49 : decode cX6_longest 49 = .ok (.lstore 4, 2) := by decide +kernel
theorem dX6_longest_51 : decode cX6_longest 51 = .ok (.lconst 0, 1) := by decide +kernel
theorem dX6_longest_52 : decode cX6_longest 52 = .ok (.lstore 6, 2) := by decide +kernel
theorem dX6_longest_54 : decode cX6_longest 54 = .ok (.aload_n 0, 1) := by decide +kernel
theorem dX6_longest_55 : decode cX6_longest 55 = .ok (.getfield 50, 3) := by decide +kernel
theorem dX6_longest_58 : decode cX6_longest 58 = .ok (.iload_n 1, 1) := by decide +kernel
theorem dX6_longest_59 : decode cX6_longest 59 = .ok (.laload, 1) := by decide +kernel
theorem dX6_longest_60 : decode cX6_longest 60 = .ok (.aload_n 0, 1) := by decide +kernel
theorem dX6_longest_61 : decode cX6_longest 61 = .ok (.getfield 53, 3) := by decide +kernel
theorem dX6_longest_64 : decode cX6_longest 64 = .ok (.iload_n 1, 1) := by decide +kernel
theorem dX6_longest_65 : decode cX6_longest 65 = .ok (.laload, 1) := by decide +kernel
theorem dX6_longest_66 : decode cX6_longest 66 = .ok (.aload_n 0, 1) := by decide +kernel
theorem dX6_longest_67 : decode cX6_longest 67 = .ok (.getfield 13, 3) := by decide +kernel
theorem dX6_longest_70 : decode cX6_longest 70 = .ok (.iload_n 1, 1) := by decide +kernel
theorem dX6_longest_71 : decode cX6_longest 71 = .ok (.laload, 1) := by decide +kernel
theorem dX6_longest_72 : decode cX6_longest 72 = .ok (.lmul, 1) := by decide +kernel
theorem dX6_longest_73 : decode cX6_longest 73 = .ok (.ladd, 1) := by decide +kernel
theorem dX6_longest_74 : decode cX6_longest 74 = .ok (.lload_n 2, 1) := by decide +kernel
theorem dX6_longest_75 : decode cX6_longest 75 = .ok (.lcmp, 1) := by decide +kernel
theorem dX6_longest_76 : decode cX6_longest 76 = .ok (.ifCond .ge 328, 3) := by decide +kernel
theorem dX6_longest_79 : decode cX6_longest 79 = .ok (.iconst 0, 1) := by decide +kernel
theorem dX6_longest_80 : decode cX6_longest 80 = .ok (.istore 8, 2) := by decide +kernel
theorem dX6_longest_82 : decode cX6_longest 82 = .ok (.iconst 1, 1) := by decide +kernel
theorem dX6_longest_83 : decode cX6_longest 83 = .ok (.istore 9, 2) := by decide +kernel
theorem dX6_longest_85 : decode cX6_longest 85 = .ok (.iload 9, 2) := by decide +kernel
theorem dX6_longest_87 : decode cX6_longest 87 = .ok (.aload_n 0, 1) := by decide +kernel
theorem dX6_longest_88 : decode cX6_longest 88 = .ok (.getfield 67, 3) := by decide +kernel
theorem dX6_longest_91 : decode cX6_longest 91 = .ok (.if_icmp .gt 178, 3) := by decide +kernel
theorem dX6_longest_94 : decode cX6_longest 94 = .ok (.aload_n 0, 1) := by decide +kernel
theorem dX6_longest_95 : decode cX6_longest 95 = .ok (.getfield 50, 3) := by decide +kernel
theorem dX6_longest_98 : decode cX6_longest 98 = .ok (.iload 9, 2) := by decide +kernel
theorem dX6_longest_100 : decode cX6_longest 100 = .ok (.laload, 1) := by decide +kernel
theorem dX6_longest_101 : decode cX6_longest 101 = .ok (.aload_n 0, 1) := by decide +kernel
theorem dX6_longest_102 : decode cX6_longest 102 = .ok (.getfield 53, 3) := by decide +kernel
theorem dX6_longest_105 : decode cX6_longest 105 = .ok (.iload 9, 2) := by decide +kernel
theorem dX6_longest_107 : decode cX6_longest 107 = .ok (.laload, 1) := by decide +kernel
theorem dX6_longest_108 : decode cX6_longest 108 = .ok (.aload_n 0, 1) := by decide +kernel
theorem dX6_longest_109 : decode cX6_longest 109 = .ok (.getfield 13, 3) := by decide +kernel
theorem dX6_longest_112 : decode cX6_longest 112 = .ok (.iload 9, 2) := by decide +kernel
theorem dX6_longest_114 : decode cX6_longest 114 = .ok (.laload, 1) := by decide +kernel
theorem dX6_longest_115 : decode cX6_longest 115 = .ok (.lmul, 1) := by decide +kernel
theorem dX6_longest_116 : decode cX6_longest 116 = .ok (.ladd, 1) := by decide +kernel
theorem dX6_longest_117 : decode cX6_longest 117 = .ok (.lload 6, 2) := by decide +kernel
theorem dX6_longest_119 : decode cX6_longest 119 = .ok (.lcmp, 1) := by decide +kernel
theorem dX6_longest_120 : decode cX6_longest 120 = .ok (.ifCond .le 6, 3) := by decide +kernel
theorem dX6_longest_123 : decode cX6_longest 123 = .ok (.goto 140, 3) := by decide +kernel
theorem dX6_longest_126 : decode cX6_longest 126 = .ok (.iload 8, 2) := by decide +kernel
theorem dX6_longest_128 : decode cX6_longest 128 = .ok (.ifCond .eq 20, 3) := by decide +kernel
theorem dX6_longest_131 : decode cX6_longest 131 = .ok (.aload_n 0, 1) := by decide +kernel
theorem dX6_longest_132 : decode cX6_longest 132 = .ok (.getfield 16, 3) := by decide +kernel
theorem dX6_longest_135 : decode cX6_longest 135 = .ok (.iload 9, 2) := by decide +kernel
theorem dX6_longest_137 : decode cX6_longest 137 = .ok (.iaload, 1) := by decide +kernel
theorem dX6_longest_138 : decode cX6_longest 138 = .ok (.aload_n 0, 1) := by decide +kernel
theorem dX6_longest_139 : decode cX6_longest 139 = .ok (.getfield 16, 3) := by decide +kernel
theorem dX6_longest_142 : decode cX6_longest 142 = .ok (.iload 8, 2) := by decide +kernel
theorem dX6_longest_144 : decode cX6_longest 144 = .ok (.iaload, 1) := by decide +kernel
theorem dX6_longest_145 : decode cX6_longest 145 = .ok (.if_icmp .le 10, 3) := by decide +kernel
theorem dX6_longest_148 : decode cX6_longest 148 = .ok (.iload 9, 2) := by decide +kernel
theorem dX6_longest_150 : decode cX6_longest 150 = .ok (.istore 8, 2) := by decide +kernel
theorem dX6_longest_152 : decode cX6_longest 152 = .ok (.goto 111, 3) := by decide +kernel
theorem dX6_longest_155 : decode cX6_longest 155 = .ok (.aload_n 0, 1) := by decide +kernel
theorem dX6_longest_156 : decode cX6_longest 156 = .ok (.getfield 16, 3) := by decide +kernel
theorem dX6_longest_159 : decode cX6_longest 159 = .ok (.iload 9, 2) := by decide +kernel
theorem dX6_longest_161 : decode cX6_longest 161 = .ok (.iaload, 1) := by decide +kernel
theorem dX6_longest_162 : decode cX6_longest 162 = .ok (.aload_n 0, 1) := by decide +kernel
theorem dX6_longest_163 : decode cX6_longest 163 = .ok (.getfield 16, 3) := by decide +kernel
theorem dX6_longest_166 : decode cX6_longest 166 = .ok (.iload 8, 2) := by decide +kernel
theorem dX6_longest_168 : decode cX6_longest 168 = .ok (.iaload, 1) := by decide +kernel
theorem dX6_longest_169 : decode cX6_longest 169 = .ok (.if_icmp .ne 94, 3) := by decide +kernel
theorem dX6_longest_172 : decode cX6_longest 172 = .ok (.aload_n 0, 1) := by decide +kernel
theorem dX6_longest_173 : decode cX6_longest 173 = .ok (.getfield 59, 3) := by decide +kernel
theorem dX6_longest_176 : decode cX6_longest 176 = .ok (.iload 8, 2) := by decide +kernel
theorem dX6_longest_178 : decode cX6_longest 178 = .ok (.baload, 1) := by decide +kernel
theorem dX6_longest_179 : decode cX6_longest 179 = .ok (.ifCond .ne 84, 3) := by decide +kernel
theorem dX6_longest_182 : decode cX6_longest 182 = .ok (.aload_n 0, 1) := by decide +kernel
theorem dX6_longest_183 : decode cX6_longest 183 = .ok (.getfield 50, 3) := by decide +kernel
theorem dX6_longest_186 : decode cX6_longest 186 = .ok (.iload 9, 2) := by decide +kernel
theorem dX6_longest_188 : decode cX6_longest 188 = .ok (.laload, 1) := by decide +kernel
theorem dX6_longest_189 : decode cX6_longest 189 = .ok (.aload_n 0, 1) := by decide +kernel
theorem dX6_longest_190 : decode cX6_longest 190 = .ok (.getfield 53, 3) := by decide +kernel
theorem dX6_longest_193 : decode cX6_longest 193 = .ok (.iload 9, 2) := by decide +kernel
theorem dX6_longest_195 : decode cX6_longest 195 = .ok (.laload, 1) := by decide +kernel
theorem dX6_longest_196 : decode cX6_longest 196 = .ok (.aload_n 0, 1) := by decide +kernel
theorem dX6_longest_197 : decode cX6_longest 197 = .ok (.getfield 13, 3) := by decide +kernel
theorem dX6_longest_200 : decode cX6_longest 200 = .ok (.iload 9, 2) := by decide +kernel
theorem dX6_longest_202 : decode cX6_longest 202 = .ok (.laload, 1) := by decide +kernel
theorem dX6_longest_203 : decode cX6_longest 203 = .ok (.lmul, 1) := by decide +kernel
theorem dX6_longest_204 : decode cX6_longest 204 = .ok (.ladd, 1) := by decide +kernel
theorem dX6_longest_205 : decode cX6_longest 205 = .ok (.aload_n 0, 1) := by decide +kernel
theorem dX6_longest_206 : decode cX6_longest 206 = .ok (.getfield 50, 3) := by decide +kernel
theorem dX6_longest_209 : decode cX6_longest 209 = .ok (.iload 8, 2) := by decide +kernel
theorem dX6_longest_211 : decode cX6_longest 211 = .ok (.laload, 1) := by decide +kernel
theorem dX6_longest_212 : decode cX6_longest 212 = .ok (.aload_n 0, 1) := by decide +kernel
theorem dX6_longest_213 : decode cX6_longest 213 = .ok (.getfield 53, 3) := by decide +kernel
theorem dX6_longest_216 : decode cX6_longest 216 = .ok (.iload 8, 2) := by decide +kernel
theorem dX6_longest_218 : decode cX6_longest 218 = .ok (.laload, 1) := by decide +kernel
theorem dX6_longest_219 : decode cX6_longest 219 = .ok (.aload_n 0, 1) := by decide +kernel
theorem dX6_longest_220 : decode cX6_longest 220 = .ok (.getfield 13, 3) := by decide +kernel
theorem dX6_longest_223 : decode cX6_longest 223 = .ok (.iload 8, 2) := by decide +kernel
theorem dX6_longest_225 : decode cX6_longest 225 = .ok (.laload, 1) := by decide +kernel
theorem dX6_longest_226 : decode cX6_longest 226 = .ok (.lmul, 1) := by decide +kernel
theorem dX6_longest_227 : decode cX6_longest 227 = .ok (.ladd, 1) := by decide +kernel
theorem dX6_longest_228 : decode cX6_longest 228 = .ok (.lcmp, 1) := by decide +kernel
theorem dX6_longest_229 : decode cX6_longest 229 = .ok (.ifCond .ge 7, 3) := by decide +kernel
theorem dX6_longest_232 : decode cX6_longest 232 = .ok (.iconst 1, 1) := by decide +kernel
theorem dX6_longest_233 : decode cX6_longest 233 = .ok (.goto 4, 3) := by decide +kernel
theorem dX6_longest_236 : decode cX6_longest 236 = .ok (.iconst 0, 1) := by decide +kernel
theorem dX6_longest_237 : decode cX6_longest 237 = .ok (.istore 10, 2) := by decide +kernel
theorem dX6_longest_239 : decode cX6_longest 239 = .ok (.aload_n 0, 1) := by decide +kernel
theorem dX6_longest_240 : decode cX6_longest 240 = .ok (.getfield 59, 3) := by decide +kernel
theorem dX6_longest_243 : decode cX6_longest 243 = .ok (.iload 9, 2) := by decide +kernel
theorem dX6_longest_245 : decode cX6_longest 245 = .ok (.baload, 1) := by decide +kernel
theorem dX6_longest_246 : decode cX6_longest 246 = .ok (.ifCond .ne 8, 3) := by decide +kernel
theorem dX6_longest_249 : decode cX6_longest 249 = .ok (.iload 10, 2) := by decide +kernel
theorem dX6_longest_251 : decode cX6_longest 251 = .ok (.ifCond .eq 8, 3) := by decide +kernel
theorem dX6_longest_254 : decode cX6_longest 254 = .ok (.iload 9, 2) := by decide +kernel
theorem dX6_longest_256 : decode cX6_longest 256 = .ok (.goto 5, 3) := by decide +kernel
theorem dX6_longest_259 : decode cX6_longest 259 = .ok (.iload 8, 2) := by decide +kernel
theorem dX6_longest_261 : decode cX6_longest 261 = .ok (.istore 8, 2) := by decide +kernel
theorem dX6_longest_263 : decode cX6_longest 263 = .ok (.iinc 9 1, 3) := by decide +kernel
theorem dX6_longest_266 : decode cX6_longest 266 = .ok (.goto (-181), 3) := by decide +kernel
theorem dX6_longest_269 : decode cX6_longest 269 = .ok (.lload 6, 2) := by decide +kernel
theorem dX6_longest_271 : decode cX6_longest 271 = .ok (.lconst 1, 1) := by decide +kernel
theorem dX6_longest_272 : decode cX6_longest 272 = .ok (.ladd, 1) := by decide +kernel
theorem dX6_longest_273 : decode cX6_longest 273 = .ok (.lstore 6, 2) := by decide +kernel
theorem dX6_longest_275 : decode cX6_longest 275 = .ok (.iload 8, 2) := by decide +kernel
theorem dX6_longest_277 : decode cX6_longest 277 = .ok (.ifCond .ne 6, 3) := by decide +kernel
theorem dX6_longest_280 : decode cX6_longest 280 = .ok (.goto (-226), 3) := by decide +kernel
theorem dX6_longest_283 : decode cX6_longest 283 = .ok (.aload_n 0, 1) := by decide +kernel
theorem dX6_longest_284 : decode cX6_longest 284 = .ok (.getfield 59, 3) := by decide +kernel
theorem dX6_longest_287 : decode cX6_longest 287 = .ok (.iload 8, 2) := by decide +kernel
theorem dX6_longest_289 : decode cX6_longest 289 = .ok (.iconst 1, 1) := by decide +kernel
theorem dX6_longest_290 : decode cX6_longest 290 = .ok (.bastore, 1) := by decide +kernel
theorem dX6_longest_291 : decode cX6_longest 291 = .ok (.aload_n 0, 1) := by decide +kernel
theorem dX6_longest_292 : decode cX6_longest 292 = .ok (.getfield 56, 3) := by decide +kernel
theorem dX6_longest_295 : decode cX6_longest 295 = .ok (.iload 8, 2) := by decide +kernel
theorem dX6_longest_297 : decode cX6_longest 297 = .ok (.dup2, 1) := by decide +kernel
theorem dX6_longest_298 : decode cX6_longest 298 = .ok (.laload, 1) := by decide +kernel
theorem dX6_longest_299 : decode cX6_longest 299 = .ok (.lconst 1, 1) := by decide +kernel
theorem dX6_longest_300 : decode cX6_longest 300 = .ok (.lsub, 1) := by decide +kernel
theorem dX6_longest_301 : decode cX6_longest 301 = .ok (.lastore, 1) := by decide +kernel
theorem dX6_longest_302 : decode cX6_longest 302 = .ok (.aload_n 0, 1) := by decide +kernel
theorem dX6_longest_303 : decode cX6_longest 303 = .ok (.getfield 56, 3) := by decide +kernel
theorem dX6_longest_306 : decode cX6_longest 306 = .ok (.iload 8, 2) := by decide +kernel
theorem dX6_longest_308 : decode cX6_longest 308 = .ok (.laload, 1) := by decide +kernel
theorem dX6_longest_309 : decode cX6_longest 309 = .ok (.lconst 0, 1) := by decide +kernel
theorem dX6_longest_310 : decode cX6_longest 310 = .ok (.lcmp, 1) := by decide +kernel
theorem dX6_longest_311 : decode cX6_longest 311 = .ok (.ifCond .le 6, 3) := by decide +kernel
theorem dX6_longest_314 : decode cX6_longest 314 = .ok (.goto (-260), 3) := by decide +kernel
theorem dX6_longest_317 : decode cX6_longest 317 = .ok (.lload 6, 2) := by decide +kernel
theorem dX6_longest_319 : decode cX6_longest 319 = .ok (.aload_n 0, 1) := by decide +kernel
theorem dX6_longest_320 : decode cX6_longest 320 = .ok (.getfield 50, 3) := by decide +kernel
theorem dX6_longest_323 : decode cX6_longest 323 = .ok (.iload 8, 2) := by decide +kernel
theorem dX6_longest_325 : decode cX6_longest 325 = .ok (.laload, 1) := by decide +kernel
theorem dX6_longest_326 : decode cX6_longest 326 = .ok (.lsub, 1) := by decide +kernel
theorem dX6_longest_327 : decode cX6_longest 327 = .ok (.aload_n 0, 1) := by decide +kernel
theorem dX6_longest_328 : decode cX6_longest 328 = .ok (.getfield 53, 3) := by decide +kernel
theorem dX6_longest_331 : decode cX6_longest 331 = .ok (.iload 8, 2) := by decide +kernel
theorem dX6_longest_333 : decode cX6_longest 333 = .ok (.laload, 1) := by decide +kernel
theorem dX6_longest_334 : decode cX6_longest 334 = .ok (.aload_n 0, 1) := by decide +kernel
theorem dX6_longest_335 : decode cX6_longest 335 = .ok (.getfield 13, 3) := by decide +kernel
theorem dX6_longest_338 : decode cX6_longest 338 = .ok (.iload 8, 2) := by decide +kernel
theorem dX6_longest_340 : decode cX6_longest 340 = .ok (.laload, 1) := by decide +kernel
theorem dX6_longest_341 : decode cX6_longest 341 = .ok (.lmul, 1) := by decide +kernel
theorem dX6_longest_342 : decode cX6_longest 342 = .ok (.lsub, 1) := by decide +kernel
theorem dX6_longest_343 : decode cX6_longest 343 = .ok (.lstore 9, 2) := by decide +kernel
theorem dX6_longest_345 : decode cX6_longest 345 = .ok (.iload 8, 2) := by decide +kernel
theorem dX6_longest_347 : decode cX6_longest 347 = .ok (.iload_n 1, 1) := by decide +kernel
theorem dX6_longest_348 : decode cX6_longest 348 = .ok (.if_icmp .ne 16, 3) := by decide +kernel
theorem dX6_longest_351 : decode cX6_longest 351 = .ok (.lload 9, 2) := by decide +kernel
theorem dX6_longest_353 : decode cX6_longest 353 = .ok (.lload 4, 2) := by decide +kernel
theorem dX6_longest_355 : decode cX6_longest 355 = .ok (.lcmp, 1) := by decide +kernel
theorem dX6_longest_356 : decode cX6_longest 356 = .ok (.ifCond .le 8, 3) := by decide +kernel
theorem dX6_longest_359 : decode cX6_longest 359 = .ok (.lload 9, 2) := by decide +kernel
theorem dX6_longest_361 : decode cX6_longest 361 = .ok (.goto 5, 3) := by decide +kernel
theorem dX6_longest_364 : decode cX6_longest 364 = .ok (.lload 4, 2) := by decide +kernel
theorem dX6_longest_366 : decode cX6_longest 366 = .ok (.lstore 4, 2) := by decide +kernel
theorem dX6_longest_368 : decode cX6_longest 368 = .ok (.aload_n 0, 1) := by decide +kernel
theorem dX6_longest_369 : decode cX6_longest 369 = .ok (.getfield 53, 3) := by decide +kernel
theorem dX6_longest_372 : decode cX6_longest 372 = .ok (.iload 8, 2) := by decide +kernel
theorem dX6_longest_374 : decode cX6_longest 374 = .ok (.dup2, 1) := by decide +kernel
theorem dX6_longest_375 : decode cX6_longest 375 = .ok (.laload, 1) := by decide +kernel
theorem dX6_longest_376 : decode cX6_longest 376 = .ok (.lconst 1, 1) := by decide +kernel
theorem dX6_longest_377 : decode cX6_longest 377 = .ok (.ladd, 1) := by decide +kernel
theorem dX6_longest_378 : decode cX6_longest 378 = .ok (.lastore, 1) := by decide +kernel
theorem dX6_longest_379 : decode cX6_longest 379 = .ok (.aload_n 0, 1) := by decide +kernel
theorem dX6_longest_380 : decode cX6_longest 380 = .ok (.getfield 56, 3) := by decide +kernel
theorem dX6_longest_383 : decode cX6_longest 383 = .ok (.iload 8, 2) := by decide +kernel
theorem dX6_longest_385 : decode cX6_longest 385 = .ok (.aload_n 0, 1) := by decide +kernel
theorem dX6_longest_386 : decode cX6_longest 386 = .ok (.getfield 7, 3) := by decide +kernel
theorem dX6_longest_389 : decode cX6_longest 389 = .ok (.iload 8, 2) := by decide +kernel
theorem dX6_longest_391 : decode cX6_longest 391 = .ok (.laload, 1) := by decide +kernel
theorem dX6_longest_392 : decode cX6_longest 392 = .ok (.lastore, 1) := by decide +kernel
theorem dX6_longest_393 : decode cX6_longest 393 = .ok (.aload_n 0, 1) := by decide +kernel
theorem dX6_longest_394 : decode cX6_longest 394 = .ok (.getfield 59, 3) := by decide +kernel
theorem dX6_longest_397 : decode cX6_longest 397 = .ok (.iload 8, 2) := by decide +kernel
theorem dX6_longest_399 : decode cX6_longest 399 = .ok (.iconst 0, 1) := by decide +kernel
theorem dX6_longest_400 : decode cX6_longest 400 = .ok (.bastore, 1) := by decide +kernel
theorem dX6_longest_401 : decode cX6_longest 401 = .ok (.goto (-347), 3) := by decide +kernel
theorem dX6_longest_404 : decode cX6_longest 404 = .ok (.lload 4, 2) := by decide +kernel
theorem dX6_longest_406 : decode cX6_longest 406 = .ok (.lreturn, 1) := by decide +kernel
theorem dX6_plain_0 : decode cX6_plain 0 = .ok (.aload_n 0, 1) := by decide +kernel
theorem dX6_plain_1 : decode cX6_plain 1 = .ok (.iconst 0, 1) := by decide +kernel
theorem dX6_plain_2 : decode cX6_plain 2 = .ok (.putfield 63, 3) := by decide +kernel
theorem dX6_plain_5 : decode cX6_plain 5 = .ok (.aload_n 0, 1) := by decide +kernel
theorem dX6_plain_6 : decode cX6_plain 6 = .ok (.iload_n 1, 1) := by decide +kernel
theorem dX6_plain_7 : decode cX6_plain 7 = .ok (.invokevirtual 82, 3) := by decide +kernel
theorem dX6_plain_10 : decode cX6_plain 10 = .ok (.ifCond .eq 18, 3) := by decide +kernel
theorem dX6_plain_13 : decode cX6_plain 13 = .ok (.aload_n 0, 1) := by decide +kernel
theorem dX6_plain_14 : decode cX6_plain 14 = .ok (.getfield 67, 3) := by decide +kernel
theorem dX6_plain_17 : decode cX6_plain 17 = .ok (.iconst 3, 1) := by decide +kernel
theorem dX6_plain_18 : decode cX6_plain 18 = .ok (.if_icmp .gt 10, 3) := by decide +kernel
theorem dX6_plain_21 : decode cX6_plain 21 = .ok (.aload_n 0, 1) := by decide +kernel
theorem dX6_plain_22 : decode cX6_plain 22 = .ok (.getfield 90, 3) := by decide +kernel
theorem dX6_plain_25 : decode cX6_plain 25 = .ok (.ifCond .le 5, 3) := by decide +kernel
theorem dX6_plain_28 : decode cX6_plain 28 = .ok (.iconst 0, 1) := by decide +kernel
theorem dX6_plain_29 : decode cX6_plain 29 = .ok (.ireturn, 1) := by decide +kernel
theorem dX6_plain_30 : decode cX6_plain 30 = .ok (.lconst 1, 1) := by decide +kernel
theorem dX6_plain_31 : decode cX6_plain 31 = .ok (.lstore_n 2, 1) := by decide +kernel
theorem dX6_plain_32 : decode cX6_plain 32 = .ok (.lconst 1, 1) := by decide +kernel
theorem dX6_plain_33 : decode cX6_plain 33 = .ok (.lstore 4, 2) := by decide +kernel
theorem dX6_plain_35 : decode cX6_plain 35 = .ok (.iconst 0, 1) := by decide +kernel
theorem dX6_plain_36 : decode cX6_plain 36 = .ok (.istore 6, 2) := by decide +kernel
theorem dX6_plain_38 : decode cX6_plain 38 = .ok (.iconst 1, 1) := by decide +kernel
theorem dX6_plain_39 : decode cX6_plain 39 = .ok (.istore 7, 2) := by decide +kernel
theorem dX6_plain_41 : decode cX6_plain 41 = .ok (.iload 7, 2) := by decide +kernel
theorem dX6_plain_43 : decode cX6_plain 43 = .ok (.aload_n 0, 1) := by decide +kernel
theorem dX6_plain_44 : decode cX6_plain 44 = .ok (.getfield 67, 3) := by decide +kernel
theorem dX6_plain_47 : decode cX6_plain 47 = .ok (.if_icmp .gt 106, 3) := by decide +kernel
theorem dX6_plain_50 : decode cX6_plain 50 = .ok (.aload_n 0, 1) := by decide +kernel
theorem dX6_plain_51 : decode cX6_plain 51 = .ok (.getfield 20, 3) := by decide +kernel
theorem dX6_plain_54 : decode cX6_plain 54 = .ok (.iload 7, 2) := by decide +kernel
theorem dX6_plain_56 : decode cX6_plain 56 = .ok (.laload, 1) := by decide +kernel
theorem dX6_plain_57 : decode cX6_plain 57 = .ok (.lconst 0, 1) := by decide +kernel
theorem dX6_plain_58 : decode cX6_plain 58 = .ok (.lcmp, 1) := by decide +kernel
theorem dX6_plain_59 : decode cX6_plain 59 = .ok (.ifCond .gt 36, 3) := by decide +kernel
theorem dX6_plain_62 : decode cX6_plain 62 = .ok (.aload_n 0, 1) := by decide +kernel
theorem dX6_plain_63 : decode cX6_plain 63 = .ok (.getfield 23, 3) := by decide +kernel
theorem dX6_plain_66 : decode cX6_plain 66 = .ok (.iload 7, 2) := by decide +kernel
theorem dX6_plain_68 : decode cX6_plain 68 = .ok (.iaload, 1) := by decide +kernel
theorem dX6_plain_69 : decode cX6_plain 69 = .ok (.iconst 1, 1) := by decide +kernel
theorem dX6_plain_70 : decode cX6_plain 70 = .ok (.if_icmp .gt 25, 3) := by decide +kernel
theorem dX6_plain_73 : decode cX6_plain 73 = .ok (.aload_n 0, 1) := by decide +kernel
theorem dX6_plain_74 : decode cX6_plain 74 = .ok (.getfield 35, 3) := by decide +kernel
theorem dX6_plain_77 : decode cX6_plain 77 = .ok (.iload 7, 2) := by decide +kernel
theorem dX6_plain_79 : decode cX6_plain 79 = .ok (.iaload, 1) := by decide +kernel
theorem dX6_plain_80 : decode cX6_plain 80 = .ok (.ifCond .gt 15, 3) := by decide +kernel
theorem dX6_plain_83 : decode cX6_plain 83 = .ok (.aload_n 0, 1) := by decide +kernel
theorem dX6_plain_84 : decode cX6_plain 84 = .ok (.getfield 29, 3) := by decide +kernel
theorem dX6_plain_87 : decode cX6_plain 87 = .ok (.iload 7, 2) := by decide +kernel
theorem dX6_plain_89 : decode cX6_plain 89 = .ok (.laload, 1) := by decide +kernel
theorem dX6_plain_90 : decode cX6_plain 90 = .ok (.lconst 0, 1) := by decide +kernel
theorem dX6_plain_91 : decode cX6_plain 91 = .ok (.lcmp, 1) := by decide +kernel
theorem dX6_plain_92 : decode cX6_plain 92 = .ok (.ifCond .le 5, 3) := by decide +kernel
theorem dX6_plain_95 : decode cX6_plain 95 = .ok (.iconst 0, 1) := by decide +kernel
theorem dX6_plain_96 : decode cX6_plain 96 = .ok (.ireturn, 1) := by decide +kernel
theorem dX6_plain_97 : decode cX6_plain 97 = .ok (.lload_n 2, 1) := by decide +kernel
theorem dX6_plain_98 : decode cX6_plain 98 = .ok (.aload_n 0, 1) := by decide +kernel
theorem dX6_plain_99 : decode cX6_plain 99 = .ok (.getfield 13, 3) := by decide +kernel
theorem dX6_plain_102 : decode cX6_plain 102 = .ok (.iload 7, 2) := by decide +kernel
theorem dX6_plain_104 : decode cX6_plain 104 = .ok (.laload, 1) := by decide +kernel
theorem dX6_plain_105 : decode cX6_plain 105 = .ok (.lmul, 1) := by decide +kernel
theorem dX6_plain_106 : decode cX6_plain 106 = .ok (.lstore_n 2, 1) := by decide +kernel
theorem dX6_plain_107 : decode cX6_plain 107 = .ok (.lload 4, 2) := by decide +kernel
theorem dX6_plain_109 : decode cX6_plain 109 = .ok (.aload_n 0, 1) := by decide +kernel
theorem dX6_plain_110 : decode cX6_plain 110 = .ok (.getfield 13, 3) := by decide +kernel
theorem dX6_plain_113 : decode cX6_plain 113 = .ok (.iload 7, 2) := by decide +kernel
theorem dX6_plain_115 : decode cX6_plain 115 = .ok (.laload, 1) := by decide +kernel
theorem dX6_plain_116 : decode cX6_plain 116 = .ok (.invokestatic 148, 3) := by decide +kernel
theorem dX6_plain_119 : decode cX6_plain 119 = .ok (.lstore 4, 2) := by decide +kernel
theorem dX6_plain_121 : decode cX6_plain 121 = .ok (.iload 6, 2) := by decide +kernel
theorem dX6_plain_123 : decode cX6_plain 123 = .ok (.ifCond .ne 17, 3) := by decide +kernel
theorem dX6_plain_126 : decode cX6_plain 126 = .ok (.aload_n 0, 1) := by decide +kernel
theorem dX6_plain_127 : decode cX6_plain 127 = .ok (.getfield 32, 3) := by decide +kernel
theorem dX6_plain_130 : decode cX6_plain 130 = .ok (.iload 7, 2) := by decide +kernel
theorem dX6_plain_132 : decode cX6_plain 132 = .ok (.laload, 1) := by decide +kernel
theorem dX6_plain_133 : decode cX6_plain 133 = .ok (.ldc2_w 80, 3) := by decide +kernel
theorem dX6_plain_136 : decode cX6_plain 136 = .ok (.lcmp, 1) := by decide +kernel
theorem dX6_plain_137 : decode cX6_plain 137 = .ok (.ifCond .eq 7, 3) := by decide +kernel
theorem dX6_plain_140 : decode cX6_plain 140 = .ok (.iconst 1, 1) := by decide +kernel
theorem dX6_plain_141 : decode cX6_plain 141 = .ok (.goto 4, 3) := by decide +kernel
theorem dX6_plain_144 : decode cX6_plain 144 = .ok (.iconst 0, 1) := by decide +kernel
theorem dX6_plain_145 : decode cX6_plain 145 = .ok (.istore 6, 2) := by decide +kernel
theorem dX6_plain_147 : decode cX6_plain 147 = .ok (.iinc 7 1, 3) := by decide +kernel
theorem dX6_plain_150 : decode cX6_plain 150 = .ok (.goto (-109), 3) := by decide +kernel
theorem dX6_plain_153 : decode cX6_plain 153 = .ok (.aload_n 0, 1) := by decide +kernel
theorem dX6_plain_154 : decode cX6_plain 154 = .ok (.iload_n 1, 1) := by decide +kernel
theorem dX6_plain_155 : decode cX6_plain 155 = .ok (.invokevirtual 129, 3) := by decide +kernel
theorem dX6_plain_158 : decode cX6_plain 158 = .ok (.lstore 7, 2) := by decide +kernel
theorem dX6_plain_160 : decode cX6_plain 160 = .ok (.lload 7, 2) := by decide +kernel
theorem dX6_plain_162 : decode cX6_plain 162 = .ok (.lconst 0, 1) := by decide +kernel
theorem dX6_plain_163 : decode cX6_plain 163 = .ok (.lcmp, 1) := by decide +kernel
theorem dX6_plain_164 : decode cX6_plain 164 = .ok (.ifCond .lt 22, 3) := by decide +kernel
theorem dX6_plain_167 : decode cX6_plain 167 = .ok (.lload_n 2, 1) := by decide +kernel
theorem dX6_plain_168 : decode cX6_plain 168 = .ok (.ldc2_w 151, 3) := by decide +kernel
theorem dX6_plain_171 : decode cX6_plain 171 = .ok (.lcmp, 1) := by decide +kernel
theorem dX6_plain_172 : decode cX6_plain 172 = .ok (.ifCond .gt 14, 3) := by decide +kernel
theorem dX6_plain_175 : decode cX6_plain 175 = .ok (.aload_n 0, 1) := by decide +kernel
theorem dX6_plain_176 : decode cX6_plain 176 = .ok (.invokevirtual 144, 3) := by decide +kernel
theorem dX6_plain_179 : decode cX6_plain 179 = .ok (.ldc2_w 142, 3) := by decide +kernel
theorem dX6_plain_182 : decode cX6_plain 182 = .ok (.lcmp, 1) := by decide +kernel
theorem dX6_plain_183 : decode cX6_plain 183 = .ok (.ifCond .le 5, 3) := by decide +kernel
theorem dX6_plain_186 : decode cX6_plain 186 = .ok (.iconst 0, 1) := by decide +kernel
theorem dX6_plain_187 : decode cX6_plain 187 = .ok (.ireturn, 1) := by decide +kernel
theorem dX6_plain_188 : decode cX6_plain 188 = .ok (.lconst 0, 1) := by decide +kernel
theorem dX6_plain_189 : decode cX6_plain 189 = .ok (.lstore 9, 2) := by decide +kernel
theorem dX6_plain_191 : decode cX6_plain 191 = .ok (.lconst 0, 1) := by decide +kernel
theorem dX6_plain_192 : decode cX6_plain 192 = .ok (.lstore 11, 2) := by decide +kernel
theorem dX6_plain_194 : decode cX6_plain 194 = .ok (.lload 11, 2) := by decide +kernel
theorem dX6_plain_196 : decode cX6_plain 196 = .ok (.lload_n 2, 1) := by decide +kernel
theorem dX6_plain_197 : decode cX6_plain 197 = .ok (.lcmp, 1) := by decide +kernel
theorem dX6_plain_198 : decode cX6_plain 198 = .ok (.ifCond .ge 148, 3) := by decide +kernel
theorem dX6_plain_201 : decode cX6_plain 201 = .ok (.lload 11, 2) := by decide +kernel
theorem dX6_plain_203 : decode cX6_plain 203 = .ok (.lstore 13, 2) := by decide +kernel
theorem dX6_plain_205 : decode cX6_plain 205 = .ok (.iconst 1, 1) := by decide +kernel
theorem dX6_plain_206 : decode cX6_plain 206 = .ok (.istore 15, 2) := by decide +kernel
theorem dX6_plain_208 : decode cX6_plain 208 = .ok (.iconst 1, 1) := by decide +kernel
theorem dX6_plain_209 : decode cX6_plain 209 = .ok (.istore 16, 2) := by decide +kernel
theorem dX6_plain_211 : decode cX6_plain 211 = .ok (.iload 16, 2) := by decide +kernel
theorem dX6_plain_213 : decode cX6_plain 213 = .ok (.aload_n 0, 1) := by decide +kernel
theorem dX6_plain_214 : decode cX6_plain 214 = .ok (.getfield 67, 3) := by decide +kernel
theorem dX6_plain_217 : decode cX6_plain 217 = .ok (.if_icmp .gt 82, 3) := by decide +kernel
theorem dX6_plain_220 : decode cX6_plain 220 = .ok (.aload_n 0, 1) := by decide +kernel
theorem dX6_plain_221 : decode cX6_plain 221 = .ok (.getfield 50, 3) := by decide +kernel
theorem dX6_plain_224 : decode cX6_plain 224 = .ok (.iload 16, 2) := by decide +kernel
theorem dX6_plain_226 : decode cX6_plain 226 = .ok (.lload 13, 2) := by decide +kernel
theorem dX6_plain_228 : decode cX6_plain 228 = .ok (.aload_n 0, 1) := by decide +kernel
theorem dX6_plain_229 : decode cX6_plain 229 = .ok (.getfield 13, 3) := by decide +kernel
theorem dX6_plain_232 : decode cX6_plain 232 = .ok (.iload 16, 2) := by decide +kernel
theorem dX6_plain_234 : decode cX6_plain 234 = .ok (.laload, 1) := by decide +kernel
theorem dX6_plain_235 : decode cX6_plain 235 = .ok (.lrem, 1) := by decide +kernel
theorem dX6_plain_236 : decode cX6_plain 236 = .ok (.lastore, 1) := by decide +kernel
theorem dX6_plain_237 : decode cX6_plain 237 = .ok (.lload 13, 2) := by decide +kernel
theorem dX6_plain_239 : decode cX6_plain 239 = .ok (.aload_n 0, 1) := by decide +kernel
theorem dX6_plain_240 : decode cX6_plain 240 = .ok (.getfield 13, 3) := by decide +kernel
theorem dX6_plain_243 : decode cX6_plain 243 = .ok (.iload 16, 2) := by decide +kernel
theorem dX6_plain_245 : decode cX6_plain 245 = .ok (.laload, 1) := by decide +kernel
theorem dX6_plain_246 : decode cX6_plain 246 = .ok (.ldiv, 1) := by decide +kernel
theorem dX6_plain_247 : decode cX6_plain 247 = .ok (.lstore 13, 2) := by decide +kernel
theorem dX6_plain_249 : decode cX6_plain 249 = .ok (.iload 15, 2) := by decide +kernel
theorem dX6_plain_251 : decode cX6_plain 251 = .ok (.ifCond .eq 39, 3) := by decide +kernel
theorem dX6_plain_254 : decode cX6_plain 254 = .ok (.aload_n 0, 1) := by decide +kernel
theorem dX6_plain_255 : decode cX6_plain 255 = .ok (.getfield 32, 3) := by decide +kernel
theorem dX6_plain_258 : decode cX6_plain 258 = .ok (.iload 16, 2) := by decide +kernel
theorem dX6_plain_260 : decode cX6_plain 260 = .ok (.laload, 1) := by decide +kernel
theorem dX6_plain_261 : decode cX6_plain 261 = .ok (.ldc2_w 80, 3) := by decide +kernel
theorem dX6_plain_264 : decode cX6_plain 264 = .ok (.lcmp, 1) := by decide +kernel
theorem dX6_plain_265 : decode cX6_plain 265 = .ok (.ifCond .eq 21, 3) := by decide +kernel
theorem dX6_plain_268 : decode cX6_plain 268 = .ok (.aload_n 0, 1) := by decide +kernel
theorem dX6_plain_269 : decode cX6_plain 269 = .ok (.getfield 32, 3) := by decide +kernel
theorem dX6_plain_272 : decode cX6_plain 272 = .ok (.iload 16, 2) := by decide +kernel
theorem dX6_plain_274 : decode cX6_plain 274 = .ok (.laload, 1) := by decide +kernel
theorem dX6_plain_275 : decode cX6_plain 275 = .ok (.aload_n 0, 1) := by decide +kernel
theorem dX6_plain_276 : decode cX6_plain 276 = .ok (.getfield 50, 3) := by decide +kernel
theorem dX6_plain_279 : decode cX6_plain 279 = .ok (.iload 16, 2) := by decide +kernel
theorem dX6_plain_281 : decode cX6_plain 281 = .ok (.laload, 1) := by decide +kernel
theorem dX6_plain_282 : decode cX6_plain 282 = .ok (.lcmp, 1) := by decide +kernel
theorem dX6_plain_283 : decode cX6_plain 283 = .ok (.ifCond .ne 7, 3) := by decide +kernel
theorem dX6_plain_286 : decode cX6_plain 286 = .ok (.iconst 1, 1) := by decide +kernel
theorem dX6_plain_287 : decode cX6_plain 287 = .ok (.goto 4, 3) := by decide +kernel
theorem dX6_plain_290 : decode cX6_plain 290 = .ok (.iconst 0, 1) := by decide +kernel
theorem dX6_plain_291 : decode cX6_plain 291 = .ok (.istore 15, 2) := by decide +kernel
theorem dX6_plain_293 : decode cX6_plain 293 = .ok (.iinc 16 1, 3) := by decide +kernel
theorem dX6_plain_296 : decode cX6_plain 296 = .ok (.goto (-85), 3) := by decide +kernel
theorem dX6_plain_299 : decode cX6_plain 299 = .ok (.iload 15, 2) := by decide +kernel
theorem dX6_plain_301 : decode cX6_plain 301 = .ok (.ifCond .ne 6, 3) := by decide +kernel
theorem dX6_plain_304 : decode cX6_plain 304 = .ok (.goto 33, 3) := by decide +kernel
theorem dX6_plain_307 : decode cX6_plain 307 = .ok (.aload_n 0, 1) := by decide +kernel
theorem dX6_plain_308 : decode cX6_plain 308 = .ok (.iload_n 1, 1) := by decide +kernel
theorem dX6_plain_309 : decode cX6_plain 309 = .ok (.ldc2_w 153, 3) := by decide +kernel
theorem dX6_plain_312 : decode cX6_plain 312 = .ok (.lload 4, 2) := by decide +kernel
theorem dX6_plain_314 : decode cX6_plain 314 = .ok (.lmul, 1) := by decide +kernel
theorem dX6_plain_315 : decode cX6_plain 315 = .ok (.invokevirtual 155, 3) := by decide +kernel
theorem dX6_plain_318 : decode cX6_plain 318 = .ok (.lstore 16, 2) := by decide +kernel
theorem dX6_plain_320 : decode cX6_plain 320 = .ok (.lload 16, 2) := by decide +kernel
theorem dX6_plain_322 : decode cX6_plain 322 = .ok (.lload 9, 2) := by decide +kernel
theorem dX6_plain_324 : decode cX6_plain 324 = .ok (.lcmp, 1) := by decide +kernel
theorem dX6_plain_325 : decode cX6_plain 325 = .ok (.ifCond .le 8, 3) := by decide +kernel
theorem dX6_plain_328 : decode cX6_plain 328 = .ok (.lload 16, 2) := by decide +kernel
theorem dX6_plain_330 : decode cX6_plain 330 = .ok (.goto 5, 3) := by decide +kernel
theorem dX6_plain_333 : decode cX6_plain 333 = .ok (.lload 9, 2) := by decide +kernel
theorem dX6_plain_335 : decode cX6_plain 335 = .ok (.lstore 9, 2) := by decide +kernel
theorem dX6_plain_337 : decode cX6_plain 337 = .ok (.lload 11, 2) := by decide +kernel
theorem dX6_plain_339 : decode cX6_plain 339 = .ok (.lconst 1, 1) := by decide +kernel
theorem dX6_plain_340 : decode cX6_plain 340 = .ok (.ladd, 1) := by decide +kernel
theorem dX6_plain_341 : decode cX6_plain 341 = .ok (.lstore 11, 2) := by decide +kernel
theorem dX6_plain_343 : decode cX6_plain 343 = .ok (.goto (-149), 3) := by decide +kernel
theorem dX6_plain_346 : decode cX6_plain 346 = .ok (.iload 6, 2) := by decide +kernel
theorem dX6_plain_348 : decode cX6_plain 348 = .ok (.ifCond .eq 19, 3) := by decide +kernel
theorem dX6_plain_351 : decode cX6_plain 351 = .ok (.lload 9, 2) := by decide +kernel
theorem dX6_plain_353 : decode cX6_plain 353 = .ok (.lload 7, 2) := by decide +kernel
theorem dX6_plain_355 : decode cX6_plain 355 = .ok (.lcmp, 1) := by decide +kernel
theorem dX6_plain_356 : decode cX6_plain 356 = .ok (.ifCond .gt 7, 3) := by decide +kernel
theorem dX6_plain_359 : decode cX6_plain 359 = .ok (.iconst 1, 1) := by decide +kernel
theorem dX6_plain_360 : decode cX6_plain 360 = .ok (.goto 20, 3) := by decide +kernel
theorem dX6_plain_363 : decode cX6_plain 363 = .ok (.iconst 0, 1) := by decide +kernel
theorem dX6_plain_364 : decode cX6_plain 364 = .ok (.goto 16, 3) := by decide +kernel
theorem dX6_plain_367 : decode cX6_plain 367 = .ok (.lload 9, 2) := by decide +kernel
theorem dX6_plain_369 : decode cX6_plain 369 = .ok (.lload 7, 2) := by decide +kernel
theorem dX6_plain_371 : decode cX6_plain 371 = .ok (.lcmp, 1) := by decide +kernel
theorem dX6_plain_372 : decode cX6_plain 372 = .ok (.ifCond .ne 7, 3) := by decide +kernel
theorem dX6_plain_375 : decode cX6_plain 375 = .ok (.iconst 1, 1) := by decide +kernel
theorem dX6_plain_376 : decode cX6_plain 376 = .ok (.goto 4, 3) := by decide +kernel
theorem dX6_plain_379 : decode cX6_plain 379 = .ok (.iconst 0, 1) := by decide +kernel
theorem dX6_plain_380 : decode cX6_plain 380 = .ok (.ireturn, 1) := by decide +kernel
theorem dJ9_max_7cf53_0 : decode cJ9_max_7cf53 0 = .ok (.iload_n 0, 1) := by decide +kernel
theorem dJ9_max_7cf53_1 : decode cJ9_max_7cf53 1 = .ok (.iload_n 1, 1) := by decide +kernel
theorem dJ9_max_7cf53_2 : decode cJ9_max_7cf53 2 = .ok (.if_icmp .lt 7, 3) := by decide +kernel
theorem dJ9_max_7cf53_5 : decode cJ9_max_7cf53 5 = .ok (.iload_n 0, 1) := by decide +kernel
theorem dJ9_max_7cf53_6 : decode cJ9_max_7cf53 6 = .ok (.goto 4, 3) := by decide +kernel
theorem dJ9_max_7cf53_9 : decode cJ9_max_7cf53 9 = .ok (.iload_n 1, 1) := by decide +kernel
theorem dJ9_max_7cf53_10 : decode cJ9_max_7cf53 10 = .ok (.ireturn, 1) := by decide +kernel
theorem dJ9_max_f86c9_0 : decode cJ9_max_f86c9 0 = .ok (.lload_n 0, 1) := by decide +kernel
theorem dJ9_max_f86c9_1 : decode cJ9_max_f86c9 1 = .ok (.lload_n 2, 1) := by decide +kernel
theorem dJ9_max_f86c9_2 : decode cJ9_max_f86c9 2 = .ok (.lcmp, 1) := by decide +kernel
theorem dJ9_max_f86c9_3 : decode cJ9_max_f86c9 3 = .ok (.ifCond .lt 7, 3) := by decide +kernel
theorem dJ9_max_f86c9_6 : decode cJ9_max_f86c9 6 = .ok (.lload_n 0, 1) := by decide +kernel
theorem dJ9_max_f86c9_7 : decode cJ9_max_f86c9 7 = .ok (.goto 4, 3) := by decide +kernel
theorem dJ9_max_f86c9_10 : decode cJ9_max_f86c9 10 = .ok (.lload_n 2, 1) := by decide +kernel
theorem dJ9_max_f86c9_11 : decode cJ9_max_f86c9 11 = .ok (.lreturn, 1) := by decide +kernel
theorem dJ9_min_7cf53_0 : decode cJ9_min_7cf53 0 = .ok (.iload_n 0, 1) := by decide +kernel
theorem dJ9_min_7cf53_1 : decode cJ9_min_7cf53 1 = .ok (.iload_n 1, 1) := by decide +kernel
theorem dJ9_min_7cf53_2 : decode cJ9_min_7cf53 2 = .ok (.if_icmp .gt 7, 3) := by decide +kernel
theorem dJ9_min_7cf53_5 : decode cJ9_min_7cf53 5 = .ok (.iload_n 0, 1) := by decide +kernel
theorem dJ9_min_7cf53_6 : decode cJ9_min_7cf53 6 = .ok (.goto 4, 3) := by decide +kernel
theorem dJ9_min_7cf53_9 : decode cJ9_min_7cf53 9 = .ok (.iload_n 1, 1) := by decide +kernel
theorem dJ9_min_7cf53_10 : decode cJ9_min_7cf53 10 = .ok (.ireturn, 1) := by decide +kernel
theorem dJ9_min_f86c9_0 : decode cJ9_min_f86c9 0 = .ok (.lload_n 0, 1) := by decide +kernel
theorem dJ9_min_f86c9_1 : decode cJ9_min_f86c9 1 = .ok (.lload_n 2, 1) := by decide +kernel
theorem dJ9_min_f86c9_2 : decode cJ9_min_f86c9 2 = .ok (.lcmp, 1) := by decide +kernel
theorem dJ9_min_f86c9_3 : decode cJ9_min_f86c9 3 = .ok (.ifCond .gt 7, 3) := by decide +kernel
theorem dJ9_min_f86c9_6 : decode cJ9_min_f86c9 6 = .ok (.lload_n 0, 1) := by decide +kernel
theorem dJ9_min_f86c9_7 : decode cJ9_min_f86c9 7 = .ok (.goto 4, 3) := by decide +kernel
theorem dJ9_min_f86c9_10 : decode cJ9_min_f86c9 10 = .ok (.lload_n 2, 1) := by decide +kernel
theorem dJ9_min_f86c9_11 : decode cJ9_min_f86c9 11 = .ok (.lreturn, 1) := by decide +kernel
theorem dJxa1e45_init_da8c8_0 : decode cJxa1e45_init_da8c8 0 = .ok (.aload_n 0, 1) := by decide +kernel
theorem dJxa1e45_init_da8c8_1 : decode cJxa1e45_init_da8c8 1 = .ok (.invokespecial 1, 3) := by decide +kernel
theorem dJxa1e45_init_da8c8_4 : decode cJxa1e45_init_da8c8 4 = .ok (.return_, 1) := by decide +kernel
theorem dJxc12de_init_da8c8_0 : decode cJxc12de_init_da8c8 0 = .ok (.aload_n 0, 1) := by decide +kernel
theorem dJxc12de_init_da8c8_1 : decode cJxc12de_init_da8c8 1 = .ok (.invokespecial 1, 3) := by decide +kernel
theorem dJxc12de_init_da8c8_4 : decode cJxc12de_init_da8c8 4 = .ok (.aload_n 0, 1) := by decide +kernel
theorem dJxc12de_init_da8c8_5 : decode cJxc12de_init_da8c8 5 = .ok (.iconst 0, 1) := by decide +kernel
theorem dJxc12de_init_da8c8_6 : decode cJxc12de_init_da8c8 6 = .ok (.putfield 7, 3) := by decide +kernel
theorem dJxc12de_init_da8c8_9 : decode cJxc12de_init_da8c8 9 = .ok (.return_, 1) := by decide +kernel
theorem dJx4a65c_init_da8c8_0 : decode cJx4a65c_init_da8c8 0 = .ok (.aload_n 0, 1) := by decide +kernel
theorem dJx4a65c_init_da8c8_1 : decode cJx4a65c_init_da8c8 1 = .ok (.invokespecial 1, 3) := by decide +kernel
theorem dJx4a65c_init_da8c8_4 : decode cJx4a65c_init_da8c8 4 = .ok (.aload_n 0, 1) := by decide +kernel
theorem dJx4a65c_init_da8c8_5 : decode cJx4a65c_init_da8c8 5 = .ok (.getstatic 39, 3) := by decide +kernel
theorem dJx4a65c_init_da8c8_8 : decode cJx4a65c_init_da8c8 8 = .ok (.putfield 9, 3) := by decide +kernel
theorem dJx4a65c_init_da8c8_11 : decode cJx4a65c_init_da8c8 11 = .ok (.return_, 1) := by decide +kernel
theorem dJx4a65c_grow_92f84_0 : decode cJx4a65c_grow_92f84 0 = .ok (.aload_n 0, 1) := by decide +kernel
theorem dJx4a65c_grow_92f84_1 : decode cJx4a65c_grow_92f84 1 = .ok (.getfield 9, 3) := by decide +kernel
theorem dJx4a65c_grow_92f84_4 : decode cJx4a65c_grow_92f84 4 = .ok (.arraylength, 1) := by decide +kernel
theorem dJx4a65c_grow_92f84_5 : decode cJx4a65c_grow_92f84 5 = .ok (.istore_n 2, 1) := by decide +kernel
theorem dJx4a65c_grow_92f84_6 : decode cJx4a65c_grow_92f84 6 = .ok (.iload_n 2, 1) := by decide +kernel
theorem dJx4a65c_grow_92f84_7 : decode cJx4a65c_grow_92f84 7 = .ok (.ifCond .gt 13, 3) := by decide +kernel
theorem dJx4a65c_grow_92f84_10 : decode cJx4a65c_grow_92f84 10 = .ok (.aload_n 0, 1) := by decide +kernel
theorem dJx4a65c_grow_92f84_11 : decode cJx4a65c_grow_92f84 11 = .ok (.getfield 9, 3) := by decide +kernel
theorem dJx4a65c_grow_92f84_14 : decode cJx4a65c_grow_92f84 14 = .ok (.getstatic 39, 3) := by decide +kernel
theorem dJx4a65c_grow_92f84_17 : decode cJx4a65c_grow_92f84 17 = .ok (.if_acmp .eq 28, 3) := by decide +kernel
theorem dJx4a65c_grow_92f84_20 : decode cJx4a65c_grow_92f84 20 = .ok (.iload_n 2, 1) := by decide +kernel
theorem dJx4a65c_grow_92f84_21 : decode cJx4a65c_grow_92f84 21 = .ok (.iload_n 1, 1) := by decide +kernel
theorem dJx4a65c_grow_92f84_22 : decode cJx4a65c_grow_92f84 22 = .ok (.iload_n 2, 1) := by decide +kernel
theorem dJx4a65c_grow_92f84_23 : decode cJx4a65c_grow_92f84 23 = .ok (.isub, 1) := by decide +kernel
theorem dJx4a65c_grow_92f84_24 : decode cJx4a65c_grow_92f84 24 = .ok (.iload_n 2, 1) := by decide +kernel
theorem dJx4a65c_grow_92f84_25 : decode cJx4a65c_grow_92f84 25 = .ok (.iconst 1, 1) := by decide +kernel
theorem dJx4a65c_grow_92f84_26 : decode cJx4a65c_grow_92f84 26 = .ok (.ishr, 1) := by decide +kernel
theorem dJx4a65c_grow_92f84_27 : decode cJx4a65c_grow_92f84 27 = .ok (.invokestatic 73, 3) := by decide +kernel
theorem dJx4a65c_grow_92f84_30 : decode cJx4a65c_grow_92f84 30 = .ok (.istore_n 3, 1) := by decide +kernel
theorem dJx4a65c_grow_92f84_31 : decode cJx4a65c_grow_92f84 31 = .ok (.aload_n 0, 1) := by decide +kernel
theorem dJx4a65c_grow_92f84_32 : decode cJx4a65c_grow_92f84 32 = .ok (.aload_n 0, 1) := by decide +kernel
theorem dJx4a65c_grow_92f84_33 : decode cJx4a65c_grow_92f84 33 = .ok (.getfield 9, 3) := by decide +kernel
theorem dJx4a65c_grow_92f84_36 : decode cJx4a65c_grow_92f84 36 = .ok (.iload_n 3, 1) := by decide +kernel
theorem dJx4a65c_grow_92f84_37 : decode cJx4a65c_grow_92f84 37 = .ok (.invokestatic 66, 3) := by decide +kernel
theorem dJx4a65c_grow_92f84_40 : decode cJx4a65c_grow_92f84 40 = .ok (.dup_x1, 1) := by decide +kernel
theorem dJx4a65c_grow_92f84_41 : decode cJx4a65c_grow_92f84 41 = .ok (.putfield 9, 3) := by decide +kernel
theorem dJx4a65c_grow_92f84_44 : decode cJx4a65c_grow_92f84 44 = .ok (.areturn, 1) := by decide +kernel
theorem dJx4a65c_grow_92f84_45 : decode cJx4a65c_grow_92f84 45 = .ok (.aload_n 0, 1) := by decide +kernel
theorem dJx4a65c_grow_92f84_46 : decode cJx4a65c_grow_92f84 46 = .ok (.bipush 10, 2) := by decide +kernel
theorem dJx4a65c_grow_92f84_48 : decode cJx4a65c_grow_92f84 48 = .ok (.iload_n 1, 1) := by decide +kernel
theorem dJx4a65c_grow_92f84_49 : decode cJx4a65c_grow_92f84 49 = .ok (.invokestatic 79, 3) := by decide +kernel
theorem dJx4a65c_grow_92f84_52 : decode cJx4a65c_grow_92f84 52 = .ok (.anewarray 7, 3) := by decide +kernel
theorem dJx4a65c_grow_92f84_55 : decode cJx4a65c_grow_92f84 55 = .ok (.dup_x1, 1) := by decide +kernel
theorem dJx4a65c_grow_92f84_56 : decode cJx4a65c_grow_92f84 56 = .ok (.putfield 9, 3) := by decide +kernel
theorem dJx4a65c_grow_92f84_59 : decode cJx4a65c_grow_92f84 59 = .ok (.areturn, 1) := by decide +kernel
theorem dJx4a65c_grow_d5877_0 : decode cJx4a65c_grow_d5877 0 = .ok (.aload_n 0, 1) := by decide +kernel
theorem dJx4a65c_grow_d5877_1 : decode cJx4a65c_grow_d5877 1 = .ok (.aload_n 0, 1) := by decide +kernel
theorem dJx4a65c_grow_d5877_2 : decode cJx4a65c_grow_d5877 2 = .ok (.getfield 48, 3) := by decide +kernel
theorem dJx4a65c_grow_d5877_5 : decode cJx4a65c_grow_d5877 5 = .ok (.iconst 1, 1) := by decide +kernel
theorem dJx4a65c_grow_d5877_6 : decode cJx4a65c_grow_d5877 6 = .ok (.iadd, 1) := by decide +kernel
theorem dJx4a65c_grow_d5877_7 : decode cJx4a65c_grow_d5877 7 = .ok (.invokevirtual 69, 3) := by decide +kernel
theorem dJx4a65c_grow_d5877_10 : decode cJx4a65c_grow_d5877 10 = .ok (.areturn, 1) := by decide +kernel
theorem dJx4a65c_size_8abf5_0 : decode cJx4a65c_size_8abf5 0 = .ok (.aload_n 0, 1) := by decide +kernel
theorem dJx4a65c_size_8abf5_1 : decode cJx4a65c_size_8abf5 1 = .ok (.getfield 48, 3) := by decide +kernel
theorem dJx4a65c_size_8abf5_4 : decode cJx4a65c_size_8abf5 4 = .ok (.ireturn, 1) := by decide +kernel
theorem dJx4a65c_isEmpty_aae02_0 : decode cJx4a65c_isEmpty_aae02 0 = .ok (.aload_n 0, 1) := by decide +kernel
theorem dJx4a65c_isEmpty_aae02_1 : decode cJx4a65c_isEmpty_aae02 1 = .ok (.getfield 48, 3) := by decide +kernel
theorem dJx4a65c_isEmpty_aae02_4 : decode cJx4a65c_isEmpty_aae02 4 = .ok (.ifCond .ne 7, 3) := by decide +kernel
theorem dJx4a65c_isEmpty_aae02_7 : decode cJx4a65c_isEmpty_aae02 7 = .ok (.iconst 1, 1) := by decide +kernel
theorem dJx4a65c_isEmpty_aae02_8 : decode cJx4a65c_isEmpty_aae02 8 = .ok (.goto 4, 3) := by decide +kernel
theorem dJx4a65c_isEmpty_aae02_11 : decode cJx4a65c_isEmpty_aae02 11 = .ok (.iconst 0, 1) := by decide +kernel
theorem dJx4a65c_isEmpty_aae02_12 : decode cJx4a65c_isEmpty_aae02 12 = .ok (.ireturn, 1) := by decide +kernel
theorem dJx4a65c_elementData_915e3_0 : decode cJx4a65c_elementData_915e3 0 = .ok (.aload_n 0, 1) := by decide +kernel
theorem dJx4a65c_elementData_915e3_1 : decode cJx4a65c_elementData_915e3 1 = .ok (.getfield 9, 3) := by decide +kernel
theorem dJx4a65c_elementData_915e3_4 : decode cJx4a65c_elementData_915e3 4 = .ok (.iload_n 1, 1) := by decide +kernel
theorem dJx4a65c_elementData_915e3_5 : decode cJx4a65c_elementData_915e3 5 = .ok (.aaload, 1) := by decide +kernel
theorem dJx4a65c_elementData_915e3_6 : decode cJx4a65c_elementData_915e3 6 = .ok (.areturn, 1) := by decide +kernel
theorem dJx4a65c_get_915e3_0 : decode cJx4a65c_get_915e3 0 = .ok (.iload_n 1, 1) := by decide +kernel
theorem dJx4a65c_get_915e3_1 : decode cJx4a65c_get_915e3 1 = .ok (.aload_n 0, 1) := by decide +kernel
theorem dJx4a65c_get_915e3_2 : decode cJx4a65c_get_915e3 2 = .ok (.getfield 48, 3) := by decide +kernel
theorem dJx4a65c_get_915e3_5 : decode cJx4a65c_get_915e3 5 = .ok (.invokestatic 118, 3) := by decide +kernel
theorem dJx4a65c_get_915e3_8 : decode cJx4a65c_get_915e3 8 = .ok (.pop, 1) := by decide +kernel
theorem dJx4a65c_get_915e3_9 : decode cJx4a65c_get_915e3 9 = .ok (.aload_n 0, 1) := by decide +kernel
theorem dJx4a65c_get_915e3_10 : decode cJx4a65c_get_915e3 10 = .ok (.iload_n 1, 1) := by decide +kernel
theorem dJx4a65c_get_915e3_11 : decode cJx4a65c_get_915e3 11 = .ok (.invokevirtual 123, 3) := by decide +kernel
theorem dJx4a65c_get_915e3_14 : decode cJx4a65c_get_915e3 14 = .ok (.areturn, 1) := by decide +kernel
theorem dJx4a65c_add_72be8_0 : decode cJx4a65c_add_72be8 0 = .ok (.iload_n 3, 1) := by decide +kernel
theorem dJx4a65c_add_72be8_1 : decode cJx4a65c_add_72be8 1 = .ok (.aload_n 2, 1) := by decide +kernel
theorem dJx4a65c_add_72be8_2 : decode cJx4a65c_add_72be8 2 = .ok (.arraylength, 1) := by decide +kernel
theorem dJx4a65c_add_72be8_3 : decode cJx4a65c_add_72be8 3 = .ok (.if_icmp .ne 8, 3) := by decide +kernel
theorem dJx4a65c_add_72be8_6 : decode cJx4a65c_add_72be8 6 = .ok (.aload_n 0, 1) := by decide +kernel
theorem dJx4a65c_add_72be8_7 : decode cJx4a65c_add_72be8 7 = .ok (.invokevirtual 129, 3) := by decide +kernel
theorem dJx4a65c_add_72be8_10 : decode cJx4a65c_add_72be8 10 = .ok (.astore_n 2, 1) := by decide +kernel
theorem dJx4a65c_add_72be8_11 : decode cJx4a65c_add_72be8 11 = .ok (.aload_n 2, 1) := by decide +kernel
theorem dJx4a65c_add_72be8_12 : decode cJx4a65c_add_72be8 12 = .ok (.iload_n 3, 1) := by decide +kernel
theorem dJx4a65c_add_72be8_13 : decode cJx4a65c_add_72be8 13 = .ok (.aload_n 1, 1) := by decide +kernel
theorem dJx4a65c_add_72be8_14 : decode cJx4a65c_add_72be8 14 = .ok (.aastore, 1) := by decide +kernel
theorem dJx4a65c_add_72be8_15 : decode cJx4a65c_add_72be8 15 = .ok (.aload_n 0, 1) := by decide +kernel
theorem dJx4a65c_add_72be8_16 : decode cJx4a65c_add_72be8 16 = .ok (.iload_n 3, 1) := by decide +kernel
theorem dJx4a65c_add_72be8_17 : decode cJx4a65c_add_72be8 17 = .ok (.iconst 1, 1) := by decide +kernel
theorem dJx4a65c_add_72be8_18 : decode cJx4a65c_add_72be8 18 = .ok (.iadd, 1) := by decide +kernel
theorem dJx4a65c_add_72be8_19 : decode cJx4a65c_add_72be8 19 = .ok (.putfield 48, 3) := by decide +kernel
theorem dJx4a65c_add_72be8_22 : decode cJx4a65c_add_72be8 22 = .ok (.return_, 1) := by decide +kernel
theorem dJx4a65c_add_9ea2d_0 : decode cJx4a65c_add_9ea2d 0 = .ok (.aload_n 0, 1) := by decide +kernel
theorem dJx4a65c_add_9ea2d_1 : decode cJx4a65c_add_9ea2d 1 = .ok (.dup, 1) := by decide +kernel
theorem dJx4a65c_add_9ea2d_2 : decode cJx4a65c_add_9ea2d 2 = .ok (.getfield 63, 3) := by decide +kernel
theorem dJx4a65c_add_9ea2d_5 : decode cJx4a65c_add_9ea2d 5 = .ok (.iconst 1, 1) := by decide +kernel
theorem dJx4a65c_add_9ea2d_6 : decode cJx4a65c_add_9ea2d 6 = .ok (.iadd, 1) := by decide +kernel
theorem dJx4a65c_add_9ea2d_7 : decode cJx4a65c_add_9ea2d 7 = .ok (.putfield 63, 3) := by decide +kernel
theorem dJx4a65c_add_9ea2d_10 : decode cJx4a65c_add_9ea2d 10 = .ok (.aload_n 0, 1) := by decide +kernel
theorem dJx4a65c_add_9ea2d_11 : decode cJx4a65c_add_9ea2d 11 = .ok (.aload_n 1, 1) := by decide +kernel
theorem dJx4a65c_add_9ea2d_12 : decode cJx4a65c_add_9ea2d 12 = .ok (.aload_n 0, 1) := by decide +kernel
theorem dJx4a65c_add_9ea2d_13 : decode cJx4a65c_add_9ea2d 13 = .ok (.getfield 9, 3) := by decide +kernel
theorem dJx4a65c_add_9ea2d_16 : decode cJx4a65c_add_9ea2d 16 = .ok (.aload_n 0, 1) := by decide +kernel
theorem dJx4a65c_add_9ea2d_17 : decode cJx4a65c_add_9ea2d 17 = .ok (.getfield 48, 3) := by decide +kernel
theorem dJx4a65c_add_9ea2d_20 : decode cJx4a65c_add_9ea2d 20 = .ok (.invokevirtual 131, 3) := by decide +kernel
theorem dJx4a65c_add_9ea2d_23 : decode cJx4a65c_add_9ea2d 23 = .ok (.iconst 1, 1) := by decide +kernel
theorem dJx4a65c_add_9ea2d_24 : decode cJx4a65c_add_9ea2d 24 = .ok (.ireturn, 1) := by decide +kernel
theorem dJ7_copyOf_1904c_0 : decode cJ7_copyOf_1904c 0 = .ok (.aload_n 0, 1) := by decide +kernel
theorem dJ7_copyOf_1904c_1 : decode cJ7_copyOf_1904c 1 = .ok (.iload_n 1, 1) := by decide +kernel
theorem dJ7_copyOf_1904c_2 : decode cJ7_copyOf_1904c 2 = .ok (.aload_n 0, 1) := by decide +kernel
theorem dJ7_copyOf_1904c_3 : decode cJ7_copyOf_1904c 3 = .ok (.invokevirtual 86, 3) := by decide +kernel
theorem dJ7_copyOf_1904c_6 : decode cJ7_copyOf_1904c 6 = .ok (.invokestatic 300, 3) := by decide +kernel
theorem dJ7_copyOf_1904c_9 : decode cJ7_copyOf_1904c 9 = .ok (.areturn, 1) := by decide +kernel
theorem dJ7_copyOf_6403c_0 : decode cJ7_copyOf_6403c 0 = .ok (.aload_n 2, 1) := by decide +kernel
theorem dJ7_copyOf_6403c_1 : decode cJ7_copyOf_6403c 1 = .ok (.ldc 110, 2) := by decide +kernel
theorem dJ7_copyOf_6403c_3 : decode cJ7_copyOf_6403c 3 = .ok (.if_acmp .ne 10, 3) := by decide +kernel
theorem dJ7_copyOf_6403c_6 : decode cJ7_copyOf_6403c 6 = .ok (.iload_n 1, 1) := by decide +kernel
theorem dJ7_copyOf_6403c_7 : decode cJ7_copyOf_6403c 7 = .ok (.anewarray 2, 3) := by decide +kernel
theorem dJ7_copyOf_6403c_10 : decode cJ7_copyOf_6403c 10 = .ok (.goto 14, 3) := by decide +kernel
theorem dJ7_copyOf_6403c_13 : decode cJ7_copyOf_6403c 13 = .ok (.aload_n 2, 1) := by decide +kernel
theorem dJ7_copyOf_6403c_14 : decode cJ7_copyOf_6403c 14 = .ok (.invokevirtual 90, 3) := by decide +kernel
theorem dJ7_copyOf_6403c_17 : decode cJ7_copyOf_6403c 17 = .ok (.iload_n 1, 1) := by decide +kernel
theorem dJ7_copyOf_6403c_18 : decode cJ7_copyOf_6403c 18 = .ok (.invokestatic 95, 3) := by decide +kernel
theorem dJ7_copyOf_6403c_21 : decode cJ7_copyOf_6403c 21 = .ok (.checkcast 110, 3) := by decide +kernel
theorem dJ7_copyOf_6403c_24 : decode cJ7_copyOf_6403c 24 = .ok (.astore_n 3, 1) := by decide +kernel
theorem dJ7_copyOf_6403c_25 : decode cJ7_copyOf_6403c 25 = .ok (.aload_n 0, 1) := by decide +kernel
theorem dJ7_copyOf_6403c_26 : decode cJ7_copyOf_6403c 26 = .ok (.iconst 0, 1) := by decide +kernel
theorem dJ7_copyOf_6403c_27 : decode cJ7_copyOf_6403c 27 = .ok (.aload_n 3, 1) := by decide +kernel
theorem dJ7_copyOf_6403c_28 : decode cJ7_copyOf_6403c 28 = .ok (.iconst 0, 1) := by decide +kernel
theorem dJ7_copyOf_6403c_29 : decode cJ7_copyOf_6403c 29 = .ok (.aload_n 0, 1) := by decide +kernel
theorem dJ7_copyOf_6403c_30 : decode cJ7_copyOf_6403c 30 = .ok (.arraylength, 1) := by decide +kernel
theorem dJ7_copyOf_6403c_31 : decode cJ7_copyOf_6403c 31 = .ok (.iload_n 1, 1) := by decide +kernel
theorem dJ7_copyOf_6403c_32 : decode cJ7_copyOf_6403c 32 = .ok (.invokestatic 304, 3) := by decide +kernel
theorem dJ7_copyOf_6403c_35 : decode cJ7_copyOf_6403c 35 = .ok (.invokestatic 150, 3) := by decide +kernel
theorem dJ7_copyOf_6403c_38 : decode cJ7_copyOf_6403c 38 = .ok (.aload_n 3, 1) := by decide +kernel
theorem dJ7_copyOf_6403c_39 : decode cJ7_copyOf_6403c 39 = .ok (.areturn, 1) := by decide +kernel
theorem dJ15_checkIndex_7cf53_0 : decode cJ15_checkIndex_7cf53 0 = .ok (.iload_n 0, 1) := by decide +kernel
theorem dJ15_checkIndex_7cf53_1 : decode cJ15_checkIndex_7cf53 1 = .ok (.iload_n 1, 1) := by decide +kernel
theorem dJ15_checkIndex_7cf53_2 : decode cJ15_checkIndex_7cf53 2 = .ok (.aconst_null, 1) := by decide +kernel
theorem dJ15_checkIndex_7cf53_3 : decode cJ15_checkIndex_7cf53 3 = .ok (.invokestatic 105, 3) := by decide +kernel
theorem dJ15_checkIndex_7cf53_6 : decode cJ15_checkIndex_7cf53 6 = .ok (.ireturn, 1) := by decide +kernel
theorem dJ8_newLength_cabcc_0 : decode cJ8_newLength_cabcc 0 = .ok (.iload_n 0, 1) := by decide +kernel
theorem dJ8_newLength_cabcc_1 : decode cJ8_newLength_cabcc 1 = .ok (.iload_n 1, 1) := by decide +kernel
theorem dJ8_newLength_cabcc_2 : decode cJ8_newLength_cabcc 2 = .ok (.iload_n 2, 1) := by decide +kernel
theorem dJ8_newLength_cabcc_3 : decode cJ8_newLength_cabcc 3 = .ok (.invokestatic 194, 3) := by decide +kernel
theorem dJ8_newLength_cabcc_6 : decode cJ8_newLength_cabcc 6 = .ok (.iadd, 1) := by decide +kernel
theorem dJ8_newLength_cabcc_7 : decode cJ8_newLength_cabcc 7 = .ok (.istore_n 3, 1) := by decide +kernel
theorem dJ8_newLength_cabcc_8 : decode cJ8_newLength_cabcc 8 = .ok (.iconst 0, 1) := by decide +kernel
theorem dJ8_newLength_cabcc_9 : decode cJ8_newLength_cabcc 9 = .ok (.iload_n 3, 1) := by decide +kernel
theorem dJ8_newLength_cabcc_10 : decode cJ8_newLength_cabcc 10 = .ok (.if_icmp .ge 11, 3) := by decide +kernel
theorem dJ8_newLength_cabcc_13 : decode cJ8_newLength_cabcc 13 = .ok (.iload_n 3, 1) := by decide +kernel
theorem dJ8_newLength_cabcc_14 : decode cJ8_newLength_cabcc 14 = .ok (.ldc 200, 2) := by decide +kernel
theorem dJ8_newLength_cabcc_16 : decode cJ8_newLength_cabcc 16 = .ok (.if_icmp .gt 5, 3) := by decide +kernel
theorem dJ8_newLength_cabcc_19 : decode cJ8_newLength_cabcc 19 = .ok (.iload_n 3, 1) := by decide +kernel
theorem dJ8_newLength_cabcc_20 : decode cJ8_newLength_cabcc 20 = .ok (.ireturn, 1) := by decide +kernel
theorem dJ8_newLength_cabcc_21 : decode cJ8_newLength_cabcc 21 = .ok (.iload_n 0, 1) := by decide +kernel
theorem dJ8_newLength_cabcc_22 : decode cJ8_newLength_cabcc 22 = .ok (.iload_n 1, 1) := by decide +kernel
theorem dJ8_newLength_cabcc_23 : decode cJ8_newLength_cabcc 23 = .ok (.invokestatic 201, 3) := by decide +kernel
theorem dJ8_newLength_cabcc_26 : decode cJ8_newLength_cabcc 26 = .ok (.ireturn, 1) := by decide +kernel
theorem dJ8_hugeLength_7cf53_0 : decode cJ8_hugeLength_7cf53 0 = .ok (.iload_n 0, 1) := by decide +kernel
theorem dJ8_hugeLength_7cf53_1 : decode cJ8_hugeLength_7cf53 1 = .ok (.iload_n 1, 1) := by decide +kernel
theorem dJ8_hugeLength_7cf53_2 : decode cJ8_hugeLength_7cf53 2 = .ok (.iadd, 1) := by decide +kernel
theorem dJ8_hugeLength_7cf53_3 : decode cJ8_hugeLength_7cf53 3 = .ok (.istore_n 2, 1) := by decide +kernel
theorem dJ8_hugeLength_7cf53_4 : decode cJ8_hugeLength_7cf53 4 = .ok (.iload_n 2, 1) := by decide +kernel
theorem dJ8_hugeLength_7cf53_5 : decode cJ8_hugeLength_7cf53 5 = .ok (.ifCond .ge 44, 3) := by decide +kernel
theorem dJ8_hugeLength_7cf53_8 : decode cJ8_hugeLength_7cf53 8 = .ok (.new 204, 3) := by decide +kernel
theorem dJ8_hugeLength_7cf53_11 : decode cJ8_hugeLength_7cf53 11 = .ok (.dup, 1) := by decide +kernel
theorem dJ8_hugeLength_7cf53_12 : decode cJ8_hugeLength_7cf53 12 = .ok (.new 89, 3) := by decide +kernel
theorem dJ8_hugeLength_7cf53_15 : decode cJ8_hugeLength_7cf53 15 = .ok (.dup, 1) := by decide +kernel
theorem dJ8_hugeLength_7cf53_16 : decode cJ8_hugeLength_7cf53 16 = .ok (.invokespecial 91, 3) := by decide +kernel
theorem dJ8_hugeLength_7cf53_19 : decode cJ8_hugeLength_7cf53 19 = .ok (.ldc 206, 2) := by decide +kernel
theorem dJ8_hugeLength_7cf53_21 : decode cJ8_hugeLength_7cf53 21 = .ok (.invokevirtual 94, 3) := by decide +kernel
theorem dJ8_hugeLength_7cf53_24 : decode cJ8_hugeLength_7cf53 24 = .ok (.iload_n 0, 1) := by decide +kernel
theorem dJ8_hugeLength_7cf53_25 : decode cJ8_hugeLength_7cf53 25 = .ok (.invokevirtual 98, 3) := by decide +kernel
theorem dJ8_hugeLength_7cf53_28 : decode cJ8_hugeLength_7cf53 28 = .ok (.ldc 208, 2) := by decide +kernel
theorem dJ8_hugeLength_7cf53_30 : decode cJ8_hugeLength_7cf53 30 = .ok (.invokevirtual 94, 3) := by decide +kernel
theorem dJ8_hugeLength_7cf53_33 : decode cJ8_hugeLength_7cf53 33 = .ok (.iload_n 1, 1) := by decide +kernel
theorem dJ8_hugeLength_7cf53_34 : decode cJ8_hugeLength_7cf53 34 = .ok (.invokevirtual 98, 3) := by decide +kernel
theorem dJ8_hugeLength_7cf53_37 : decode cJ8_hugeLength_7cf53 37 = .ok (.ldc 210, 2) := by decide +kernel
theorem dJ8_hugeLength_7cf53_39 : decode cJ8_hugeLength_7cf53 39 = .ok (.invokevirtual 94, 3) := by decide +kernel
theorem dJ8_hugeLength_7cf53_42 : decode cJ8_hugeLength_7cf53 42 = .ok (.invokevirtual 101, 3) := by decide +kernel
theorem dJ8_hugeLength_7cf53_45 : decode cJ8_hugeLength_7cf53 45 = .ok (.invokespecial 212, 3) := by decide +kernel
theorem dJ8_hugeLength_7cf53_48 : decode cJ8_hugeLength_7cf53 48 = .ok (.athrow, 1) := by decide +kernel
theorem dJ8_hugeLength_7cf53_49 : decode cJ8_hugeLength_7cf53 49 = .ok (.iload_n 2, 1) := by decide +kernel
theorem dJ8_hugeLength_7cf53_50 : decode cJ8_hugeLength_7cf53 50 = .ok (.ldc 200, 2) := by decide +kernel
theorem dJ8_hugeLength_7cf53_52 : decode cJ8_hugeLength_7cf53 52 = .ok (.if_icmp .gt 6, 3) := by decide +kernel
theorem dJ8_hugeLength_7cf53_55 : decode cJ8_hugeLength_7cf53 55 = .ok (.ldc 200, 2) := by decide +kernel
theorem dJ8_hugeLength_7cf53_57 : decode cJ8_hugeLength_7cf53 57 = .ok (.ireturn, 1) := by decide +kernel
theorem dJ8_hugeLength_7cf53_58 : decode cJ8_hugeLength_7cf53 58 = .ok (.iload_n 2, 1) := by decide +kernel
theorem dJ8_hugeLength_7cf53_59 : decode cJ8_hugeLength_7cf53 59 = .ok (.ireturn, 1) := by decide +kernel
theorem dJ3_checkIndex_8e157_0 : decode cJ3_checkIndex_8e157 0 = .ok (.iload_n 0, 1) := by decide +kernel
theorem dJ3_checkIndex_8e157_1 : decode cJ3_checkIndex_8e157 1 = .ok (.ifCond .lt 8, 3) := by decide +kernel
theorem dJ3_checkIndex_8e157_4 : decode cJ3_checkIndex_8e157 4 = .ok (.iload_n 0, 1) := by decide +kernel
theorem dJ3_checkIndex_8e157_5 : decode cJ3_checkIndex_8e157 5 = .ok (.iload_n 1, 1) := by decide +kernel
theorem dJ3_checkIndex_8e157_6 : decode cJ3_checkIndex_8e157 6 = .ok (.if_icmp .lt 10, 3) := by decide +kernel
theorem dJ3_checkIndex_8e157_9 : decode cJ3_checkIndex_8e157 9 = .ok (.aload_n 2, 1) := by decide +kernel
theorem dJ3_checkIndex_8e157_10 : decode cJ3_checkIndex_8e157 10 = .ok (.iload_n 0, 1) := by decide +kernel
theorem dJ3_checkIndex_8e157_11 : decode cJ3_checkIndex_8e157 11 = .ok (.iload_n 1, 1) := by decide +kernel
theorem dJ3_checkIndex_8e157_12 : decode cJ3_checkIndex_8e157 12 = .ok (.invokestatic 95, 3) := by decide +kernel
theorem dJ3_checkIndex_8e157_15 : decode cJ3_checkIndex_8e157 15 = .ok (.athrow, 1) := by decide +kernel
theorem dJ3_checkIndex_8e157_16 : decode cJ3_checkIndex_8e157 16 = .ok (.iload_n 0, 1) := by decide +kernel
theorem dJ3_checkIndex_8e157_17 : decode cJ3_checkIndex_8e157 17 = .ok (.ireturn, 1) := by decide +kernel
theorem dL_task_0 : decode cL_task 0 = .ok (.aload 6, 2) := by decide +kernel
theorem dL_task_2 : decode cL_task 2 = .ok (.iconst 0, 1) := by decide +kernel
theorem dL_task_3 : decode cL_task 3 = .ok (.aload_n 0, 1) := by decide +kernel
theorem dL_task_4 : decode cL_task 4 = .ok (.lload_n 1, 1) := by decide +kernel
theorem dL_task_5 : decode cL_task 5 = .ok (.lload_n 3, 1) := by decide +kernel
theorem dL_task_6 : decode cL_task 6 = .ok (.iload 5, 2) := by decide +kernel
theorem dL_task_8 : decode cL_task 8 = .ok (.invokevirtual 7, 3) := by decide +kernel
theorem dL_task_11 : decode cL_task 11 = .ok (.i2l, 1) := by decide +kernel
theorem dL_task_12 : decode cL_task 12 = .ok (.lastore, 1) := by decide +kernel
theorem dL_task_13 : decode cL_task 13 = .ok (.goto 7, 3) := by decide +kernel
theorem dL_task_16 : decode cL_task 16 = .ok (.astore 7, 2) := by decide +kernel
theorem dL_task_18 : decode cL_task 18 = .ok (.iconst 1, 1) := by decide +kernel
theorem dL_task_19 : decode cL_task 19 = .ok (.ireturn, 1) := by decide +kernel
theorem dL_task_20 : decode cL_task 20 = .ok (.iconst 0, 1) := by decide +kernel
theorem dL_task_21 : decode cL_task 21 = .ok (.ireturn, 1) := by decide +kernel
theorem dL_law_0 : decode cL_law 0 = .ok (.new 8, 3) := by decide +kernel
theorem dL_law_3 : decode cL_law 3 = .ok (.dup, 1) := by decide +kernel
theorem dL_law_4 : decode cL_law 4 = .ok (.invokespecial 15, 3) := by decide +kernel
theorem dL_law_7 : decode cL_law 7 = .ok (.astore_n 1, 1) := by decide +kernel
theorem dL_law_8 : decode cL_law 8 = .ok (.new 16, 3) := by decide +kernel
theorem dL_law_11 : decode cL_law 11 = .ok (.dup, 1) := by decide +kernel
theorem dL_law_12 : decode cL_law 12 = .ok (.invokespecial 18, 3) := by decide +kernel
theorem dL_law_15 : decode cL_law 15 = .ok (.astore_n 2, 1) := by decide +kernel
theorem dL_law_16 : decode cL_law 16 = .ok (.iconst 1, 1) := by decide +kernel
theorem dL_law_17 : decode cL_law 17 = .ok (.newarray .long, 2) := by decide +kernel
theorem dL_law_19 : decode cL_law 19 = .ok (.astore_n 3, 1) := by decide +kernel
theorem dL_law_20 : decode cL_law 20 = .ok (.iconst 0, 1) := by decide +kernel
theorem dL_law_21 : decode cL_law 21 = .ok (.istore 4, 2) := by decide +kernel
theorem dL_law_23 : decode cL_law 23 = .ok (.iload 4, 2) := by decide +kernel
theorem dL_law_25 : decode cL_law 25 = .ok (.aload_n 0, 1) := by decide +kernel
theorem dL_law_26 : decode cL_law 26 = .ok (.arraylength, 1) := by decide +kernel
theorem dL_law_27 : decode cL_law 27 = .ok (.bipush 6, 2) := by decide +kernel
theorem dL_law_29 : decode cL_law 29 = .ok (.isub, 1) := by decide +kernel
theorem dL_law_30 : decode cL_law 30 = .ok (.if_icmp .gt 846, 3) := by decide +kernel
theorem dL_law_33 : decode cL_law 33 = .ok (.aload_n 0, 1) := by decide +kernel
theorem dL_law_34 : decode cL_law 34 = .ok (.iload 4, 2) := by decide +kernel
theorem dL_law_36 : decode cL_law 36 = .ok (.iaload, 1) := by decide +kernel
theorem dL_law_37 : decode cL_law 37 = .ok (.bipush 15, 2) := by decide +kernel
theorem dL_law_39 : decode cL_law 39 = .ok (.iand, 1) := by decide +kernel
theorem dL_law_40 : decode cL_law 40 = .ok (.tableswitch 830 0 11 #[64, 208, 277, 358, 439, 508, 534, 583, 609, 635, 660, 761], 64) := by decide +kernel
theorem dL_law_104 : decode cL_law 104 = .ok (.aload_n 1, 1) := by decide +kernel
theorem dL_law_105 : decode cL_law 105 = .ok (.aload_n 0, 1) := by decide +kernel
theorem dL_law_106 : decode cL_law 106 = .ok (.iload 4, 2) := by decide +kernel
theorem dL_law_108 : decode cL_law 108 = .ok (.iconst 1, 1) := by decide +kernel
theorem dL_law_109 : decode cL_law 109 = .ok (.iadd, 1) := by decide +kernel
theorem dL_law_110 : decode cL_law 110 = .ok (.iaload, 1) := by decide +kernel
theorem dL_law_111 : decode cL_law 111 = .ok (.i2l, 1) := by decide +kernel
theorem dL_law_112 : decode cL_law 112 = .ok (.bipush 32, 2) := by decide +kernel
theorem dL_law_114 : decode cL_law 114 = .ok (.lshl, 1) := by decide +kernel
theorem dL_law_115 : decode cL_law 115 = .ok (.aload_n 0, 1) := by decide +kernel
theorem dL_law_116 : decode cL_law 116 = .ok (.iload 4, 2) := by decide +kernel
theorem dL_law_118 : decode cL_law 118 = .ok (.iconst 2, 1) := by decide +kernel
theorem dL_law_119 : decode cL_law 119 = .ok (.iadd, 1) := by decide +kernel
theorem dL_law_120 : decode cL_law 120 = .ok (.iaload, 1) := by decide +kernel
theorem dL_law_121 : decode cL_law 121 = .ok (.i2l, 1) := by decide +kernel
theorem dL_law_122 : decode cL_law 122 = .ok (.ldc2_w 19, 3) := by decide +kernel
theorem dL_law_125 : decode cL_law 125 = .ok (.land, 1) := by decide +kernel
theorem dL_law_126 : decode cL_law 126 = .ok (.lor, 1) := by decide +kernel
theorem dL_law_127 : decode cL_law 127 = .ok (.aload_n 0, 1) := by decide +kernel
theorem dL_law_128 : decode cL_law 128 = .ok (.iload 4, 2) := by decide +kernel
theorem dL_law_130 : decode cL_law 130 = .ok (.iconst 3, 1) := by decide +kernel
theorem dL_law_131 : decode cL_law 131 = .ok (.iadd, 1) := by decide +kernel
theorem dL_law_132 : decode cL_law 132 = .ok (.iaload, 1) := by decide +kernel
theorem dL_law_133 : decode cL_law 133 = .ok (.i2l, 1) := by decide +kernel
theorem dL_law_134 : decode cL_law 134 = .ok (.bipush 32, 2) := by decide +kernel
theorem dL_law_136 : decode cL_law 136 = .ok (.lshl, 1) := by decide +kernel
theorem dL_law_137 : decode cL_law 137 = .ok (.aload_n 0, 1) := by decide +kernel
theorem dL_law_138 : decode cL_law 138 = .ok (.iload 4, 2) := by decide +kernel
theorem dL_law_140 : decode cL_law 140 = .ok (.iconst 4, 1) := by decide +kernel
theorem dL_law_141 : decode cL_law 141 = .ok (.iadd, 1) := by decide +kernel
theorem dL_law_142 : decode cL_law 142 = .ok (.iaload, 1) := by decide +kernel
theorem dL_law_143 : decode cL_law 143 = .ok (.i2l, 1) := by decide +kernel
theorem dL_law_144 : decode cL_law 144 = .ok (.ldc2_w 19, 3) := by decide +kernel
theorem dL_law_147 : decode cL_law 147 = .ok (.land, 1) := by decide +kernel
theorem dL_law_148 : decode cL_law 148 = .ok (.lor, 1) := by decide +kernel
theorem dL_law_149 : decode cL_law 149 = .ok (.aload_n 0, 1) := by decide +kernel
theorem dL_law_150 : decode cL_law 150 = .ok (.iload 4, 2) := by decide +kernel
theorem dL_law_152 : decode cL_law 152 = .ok (.iconst 5, 1) := by decide +kernel
theorem dL_law_153 : decode cL_law 153 = .ok (.iadd, 1) := by decide +kernel
theorem dL_law_154 : decode cL_law 154 = .ok (.iaload, 1) := by decide +kernel
theorem dL_law_155 : decode cL_law 155 = .ok (.aload_n 3, 1) := by decide +kernel
theorem dL_law_156 : decode cL_law 156 = .ok (.invokestatic 21, 3) := by decide +kernel
theorem dL_law_159 : decode cL_law 159 = .ok (.istore 5, 2) := by decide +kernel
theorem dL_law_161 : decode cL_law 161 = .ok (.aload_n 2, 1) := by decide +kernel
theorem dL_law_162 : decode cL_law 162 = .ok (.aload_n 0, 1) := by decide +kernel
theorem dL_law_163 : decode cL_law 163 = .ok (.iload 4, 2) := by decide +kernel
theorem dL_law_165 : decode cL_law 165 = .ok (.iconst 1, 1) := by decide +kernel
theorem dL_law_166 : decode cL_law 166 = .ok (.iadd, 1) := by decide +kernel
theorem dL_law_167 : decode cL_law 167 = .ok (.iaload, 1) := by decide +kernel
theorem dL_law_168 : decode cL_law 168 = .ok (.i2l, 1) := by decide +kernel
theorem dL_law_169 : decode cL_law 169 = .ok (.bipush 32, 2) := by decide +kernel
theorem dL_law_171 : decode cL_law 171 = .ok (.lshl, 1) := by decide +kernel
theorem dL_law_172 : decode cL_law 172 = .ok (.aload_n 0, 1) := by decide +kernel
theorem dL_law_173 : decode cL_law 173 = .ok (.iload 4, 2) := by decide +kernel
theorem dL_law_175 : decode cL_law 175 = .ok (.iconst 2, 1) := by decide +kernel
theorem dL_law_176 : decode cL_law 176 = .ok (.iadd, 1) := by decide +kernel
theorem dL_law_177 : decode cL_law 177 = .ok (.iaload, 1) := by decide +kernel
theorem dL_law_178 : decode cL_law 178 = .ok (.i2l, 1) := by decide +kernel
theorem dL_law_179 : decode cL_law 179 = .ok (.ldc2_w 19, 3) := by decide +kernel
theorem dL_law_182 : decode cL_law 182 = .ok (.land, 1) := by decide +kernel
theorem dL_law_183 : decode cL_law 183 = .ok (.lor, 1) := by decide +kernel
theorem dL_law_184 : decode cL_law 184 = .ok (.aload_n 0, 1) := by decide +kernel
theorem dL_law_185 : decode cL_law 185 = .ok (.iload 4, 2) := by decide +kernel
theorem dL_law_187 : decode cL_law 187 = .ok (.iconst 3, 1) := by decide +kernel
theorem dL_law_188 : decode cL_law 188 = .ok (.iadd, 1) := by decide +kernel
theorem dL_law_189 : decode cL_law 189 = .ok (.iaload, 1) := by decide +kernel
theorem dL_law_190 : decode cL_law 190 = .ok (.i2l, 1) := by decide +kernel
theorem dL_law_191 : decode cL_law 191 = .ok (.bipush 32, 2) := by decide +kernel
theorem dL_law_193 : decode cL_law 193 = .ok (.lshl, 1) := by decide +kernel
theorem dL_law_194 : decode cL_law 194 = .ok (.aload_n 0, 1) := by decide +kernel
theorem dL_law_195 : decode cL_law 195 = .ok (.iload 4, 2) := by decide +kernel
theorem dL_law_197 : decode cL_law 197 = .ok (.iconst 4, 1) := by decide +kernel
theorem dL_law_198 : decode cL_law 198 = .ok (.iadd, 1) := by decide +kernel
theorem dL_law_199 : decode cL_law 199 = .ok (.iaload, 1) := by decide +kernel
theorem dL_law_200 : decode cL_law 200 = .ok (.i2l, 1) := by decide +kernel
theorem dL_law_201 : decode cL_law 201 = .ok (.ldc2_w 19, 3) := by decide +kernel
theorem dL_law_204 : decode cL_law 204 = .ok (.land, 1) := by decide +kernel
theorem dL_law_205 : decode cL_law 205 = .ok (.lor, 1) := by decide +kernel
theorem dL_law_206 : decode cL_law 206 = .ok (.aload_n 0, 1) := by decide +kernel
theorem dL_law_207 : decode cL_law 207 = .ok (.iload 4, 2) := by decide +kernel
theorem dL_law_209 : decode cL_law 209 = .ok (.iconst 5, 1) := by decide +kernel
theorem dL_law_210 : decode cL_law 210 = .ok (.iadd, 1) := by decide +kernel
theorem dL_law_211 : decode cL_law 211 = .ok (.iaload, 1) := by decide +kernel
theorem dL_law_212 : decode cL_law 212 = .ok (.invokevirtual 26, 3) := by decide +kernel
theorem dL_law_215 : decode cL_law 215 = .ok (.istore 6, 2) := by decide +kernel
theorem dL_law_217 : decode cL_law 217 = .ok (.aload_n 2, 1) := by decide +kernel
theorem dL_law_218 : decode cL_law 218 = .ok (.invokevirtual 27, 3) := by decide +kernel
theorem dL_law_221 : decode cL_law 221 = .ok (.iload 5, 2) := by decide +kernel
theorem dL_law_223 : decode cL_law 223 = .ok (.if_icmp .eq 5, 3) := by decide +kernel
theorem dL_law_226 : decode cL_law 226 = .ok (.iconst 0, 1) := by decide +kernel
theorem dL_law_227 : decode cL_law 227 = .ok (.ireturn, 1) := by decide +kernel
theorem dL_law_228 : decode cL_law 228 = .ok (.iload 5, 2) := by decide +kernel
theorem dL_law_230 : decode cL_law 230 = .ok (.ifCond .ne 15, 3) := by decide +kernel
theorem dL_law_233 : decode cL_law 233 = .ok (.aload_n 3, 1) := by decide +kernel
theorem dL_law_234 : decode cL_law 234 = .ok (.iconst 0, 1) := by decide +kernel
theorem dL_law_235 : decode cL_law 235 = .ok (.laload, 1) := by decide +kernel
theorem dL_law_236 : decode cL_law 236 = .ok (.iload 6, 2) := by decide +kernel
theorem dL_law_238 : decode cL_law 238 = .ok (.i2l, 1) := by decide +kernel
theorem dL_law_239 : decode cL_law 239 = .ok (.lcmp, 1) := by decide +kernel
theorem dL_law_240 : decode cL_law 240 = .ok (.ifCond .eq 5, 3) := by decide +kernel
theorem dL_law_243 : decode cL_law 243 = .ok (.iconst 0, 1) := by decide +kernel
theorem dL_law_244 : decode cL_law 244 = .ok (.ireturn, 1) := by decide +kernel
theorem dL_law_245 : decode cL_law 245 = .ok (.goto 625, 3) := by decide +kernel
theorem dL_law_248 : decode cL_law 248 = .ok (.aload_n 1, 1) := by decide +kernel
theorem dL_law_249 : decode cL_law 249 = .ok (.aload_n 0, 1) := by decide +kernel
theorem dL_law_250 : decode cL_law 250 = .ok (.iload 4, 2) := by decide +kernel
theorem dL_law_252 : decode cL_law 252 = .ok (.iconst 1, 1) := by decide +kernel
theorem dL_law_253 : decode cL_law 253 = .ok (.iadd, 1) := by decide +kernel
theorem dL_law_254 : decode cL_law 254 = .ok (.iaload, 1) := by decide +kernel
theorem dL_law_255 : decode cL_law 255 = .ok (.aload_n 0, 1) := by decide +kernel
theorem dL_law_256 : decode cL_law 256 = .ok (.iload 4, 2) := by decide +kernel
theorem dL_law_258 : decode cL_law 258 = .ok (.iconst 2, 1) := by decide +kernel
theorem dL_law_259 : decode cL_law 259 = .ok (.iadd, 1) := by decide +kernel
theorem dL_law_260 : decode cL_law 260 = .ok (.iaload, 1) := by decide +kernel
theorem dL_law_261 : decode cL_law 261 = .ok (.i2l, 1) := by decide +kernel
theorem dL_law_262 : decode cL_law 262 = .ok (.bipush 32, 2) := by decide +kernel
theorem dL_law_264 : decode cL_law 264 = .ok (.lshl, 1) := by decide +kernel
theorem dL_law_265 : decode cL_law 265 = .ok (.aload_n 0, 1) := by decide +kernel
theorem dL_law_266 : decode cL_law 266 = .ok (.iload 4, 2) := by decide +kernel
theorem dL_law_268 : decode cL_law 268 = .ok (.iconst 3, 1) := by decide +kernel
theorem dL_law_269 : decode cL_law 269 = .ok (.iadd, 1) := by decide +kernel
theorem dL_law_270 : decode cL_law 270 = .ok (.iaload, 1) := by decide +kernel
theorem dL_law_271 : decode cL_law 271 = .ok (.i2l, 1) := by decide +kernel
theorem dL_law_272 : decode cL_law 272 = .ok (.ldc2_w 19, 3) := by decide +kernel
theorem dL_law_275 : decode cL_law 275 = .ok (.land, 1) := by decide +kernel
theorem dL_law_276 : decode cL_law 276 = .ok (.lor, 1) := by decide +kernel
theorem dL_law_277 : decode cL_law 277 = .ok (.invokevirtual 31, 3) := by decide +kernel
theorem dL_law_280 : decode cL_law 280 = .ok (.aload_n 2, 1) := by decide +kernel
theorem dL_law_281 : decode cL_law 281 = .ok (.aload_n 0, 1) := by decide +kernel
theorem dL_law_282 : decode cL_law 282 = .ok (.iload 4, 2) := by decide +kernel
theorem dL_law_284 : decode cL_law 284 = .ok (.iconst 1, 1) := by decide +kernel
theorem dL_law_285 : decode cL_law 285 = .ok (.iadd, 1) := by decide +kernel
theorem dL_law_286 : decode cL_law 286 = .ok (.iaload, 1) := by decide +kernel
theorem dL_law_287 : decode cL_law 287 = .ok (.aload_n 0, 1) := by decide +kernel
theorem dL_law_288 : decode cL_law 288 = .ok (.iload 4, 2) := by decide +kernel
theorem dL_law_290 : decode cL_law 290 = .ok (.iconst 2, 1) := by decide +kernel
theorem dL_law_291 : decode cL_law 291 = .ok (.iadd, 1) := by decide +kernel
theorem dL_law_292 : decode cL_law 292 = .ok (.iaload, 1) := by decide +kernel
theorem dL_law_293 : decode cL_law 293 = .ok (.i2l, 1) := by decide +kernel
theorem dL_law_294 : decode cL_law 294 = .ok (.bipush 32, 2) := by decide +kernel
theorem dL_law_296 : decode cL_law 296 = .ok (.lshl, 1) := by decide +kernel
theorem dL_law_297 : decode cL_law 297 = .ok (.aload_n 0, 1) := by decide +kernel
theorem dL_law_298 : decode cL_law 298 = .ok (.iload 4, 2) := by decide +kernel
theorem dL_law_300 : decode cL_law 300 = .ok (.iconst 3, 1) := by decide +kernel
theorem dL_law_301 : decode cL_law 301 = .ok (.iadd, 1) := by decide +kernel
theorem dL_law_302 : decode cL_law 302 = .ok (.iaload, 1) := by decide +kernel
theorem dL_law_303 : decode cL_law 303 = .ok (.i2l, 1) := by decide +kernel
theorem dL_law_304 : decode cL_law 304 = .ok (.ldc2_w 19, 3) := by decide +kernel
theorem dL_law_307 : decode cL_law 307 = .ok (.land, 1) := by decide +kernel
theorem dL_law_308 : decode cL_law 308 = .ok (.lor, 1) := by decide +kernel
theorem dL_law_309 : decode cL_law 309 = .ok (.invokevirtual 35, 3) := by decide +kernel
theorem dL_law_312 : decode cL_law 312 = .ok (.if_icmp .eq 558, 3) := by decide +kernel
theorem dL_law_315 : decode cL_law 315 = .ok (.iconst 0, 1) := by decide +kernel
theorem dL_law_316 : decode cL_law 316 = .ok (.ireturn, 1) := by decide +kernel
theorem dL_law_317 : decode cL_law 317 = .ok (.aload_n 1, 1) := by decide +kernel
theorem dL_law_318 : decode cL_law 318 = .ok (.aload_n 0, 1) := by decide +kernel
theorem dL_law_319 : decode cL_law 319 = .ok (.iload 4, 2) := by decide +kernel
theorem dL_law_321 : decode cL_law 321 = .ok (.iconst 1, 1) := by decide +kernel
theorem dL_law_322 : decode cL_law 322 = .ok (.iadd, 1) := by decide +kernel
theorem dL_law_323 : decode cL_law 323 = .ok (.iaload, 1) := by decide +kernel
theorem dL_law_324 : decode cL_law 324 = .ok (.aload_n 0, 1) := by decide +kernel
theorem dL_law_325 : decode cL_law 325 = .ok (.iload 4, 2) := by decide +kernel
theorem dL_law_327 : decode cL_law 327 = .ok (.iconst 2, 1) := by decide +kernel
theorem dL_law_328 : decode cL_law 328 = .ok (.iadd, 1) := by decide +kernel
theorem dL_law_329 : decode cL_law 329 = .ok (.iaload, 1) := by decide +kernel
theorem dL_law_330 : decode cL_law 330 = .ok (.aload_n 0, 1) := by decide +kernel
theorem dL_law_331 : decode cL_law 331 = .ok (.iload 4, 2) := by decide +kernel
theorem dL_law_333 : decode cL_law 333 = .ok (.iconst 3, 1) := by decide +kernel
theorem dL_law_334 : decode cL_law 334 = .ok (.iadd, 1) := by decide +kernel
theorem dL_law_335 : decode cL_law 335 = .ok (.iaload, 1) := by decide +kernel
theorem dL_law_336 : decode cL_law 336 = .ok (.i2l, 1) := by decide +kernel
theorem dL_law_337 : decode cL_law 337 = .ok (.bipush 32, 2) := by decide +kernel
theorem dL_law_339 : decode cL_law 339 = .ok (.lshl, 1) := by decide +kernel
theorem dL_law_340 : decode cL_law 340 = .ok (.aload_n 0, 1) := by decide +kernel
theorem dL_law_341 : decode cL_law 341 = .ok (.iload 4, 2) := by decide +kernel
theorem dL_law_343 : decode cL_law 343 = .ok (.iconst 4, 1) := by decide +kernel
theorem dL_law_344 : decode cL_law 344 = .ok (.iadd, 1) := by decide +kernel
theorem dL_law_345 : decode cL_law 345 = .ok (.iaload, 1) := by decide +kernel
theorem dL_law_346 : decode cL_law 346 = .ok (.i2l, 1) := by decide +kernel
theorem dL_law_347 : decode cL_law 347 = .ok (.ldc2_w 19, 3) := by decide +kernel
theorem dL_law_350 : decode cL_law 350 = .ok (.land, 1) := by decide +kernel
theorem dL_law_351 : decode cL_law 351 = .ok (.lor, 1) := by decide +kernel
theorem dL_law_352 : decode cL_law 352 = .ok (.invokevirtual 36, 3) := by decide +kernel
theorem dL_law_355 : decode cL_law 355 = .ok (.aload_n 2, 1) := by decide +kernel
theorem dL_law_356 : decode cL_law 356 = .ok (.aload_n 0, 1) := by decide +kernel
theorem dL_law_357 : decode cL_law 357 = .ok (.iload 4, 2) := by decide +kernel
theorem dL_law_359 : decode cL_law 359 = .ok (.iconst 1, 1) := by decide +kernel
theorem dL_law_360 : decode cL_law 360 = .ok (.iadd, 1) := by decide +kernel
theorem dL_law_361 : decode cL_law 361 = .ok (.iaload, 1) := by decide +kernel
theorem dL_law_362 : decode cL_law 362 = .ok (.aload_n 0, 1) := by decide +kernel
theorem dL_law_363 : decode cL_law 363 = .ok (.iload 4, 2) := by decide +kernel
theorem dL_law_365 : decode cL_law 365 = .ok (.iconst 2, 1) := by decide +kernel
theorem dL_law_366 : decode cL_law 366 = .ok (.iadd, 1) := by decide +kernel
theorem dL_law_367 : decode cL_law 367 = .ok (.iaload, 1) := by decide +kernel
theorem dL_law_368 : decode cL_law 368 = .ok (.aload_n 0, 1) := by decide +kernel
theorem dL_law_369 : decode cL_law 369 = .ok (.iload 4, 2) := by decide +kernel
theorem dL_law_371 : decode cL_law 371 = .ok (.iconst 3, 1) := by decide +kernel
theorem dL_law_372 : decode cL_law 372 = .ok (.iadd, 1) := by decide +kernel
theorem dL_law_373 : decode cL_law 373 = .ok (.iaload, 1) := by decide +kernel
theorem dL_law_374 : decode cL_law 374 = .ok (.i2l, 1) := by decide +kernel
theorem dL_law_375 : decode cL_law 375 = .ok (.bipush 32, 2) := by decide +kernel
theorem dL_law_377 : decode cL_law 377 = .ok (.lshl, 1) := by decide +kernel
theorem dL_law_378 : decode cL_law 378 = .ok (.aload_n 0, 1) := by decide +kernel
theorem dL_law_379 : decode cL_law 379 = .ok (.iload 4, 2) := by decide +kernel
theorem dL_law_381 : decode cL_law 381 = .ok (.iconst 4, 1) := by decide +kernel
theorem dL_law_382 : decode cL_law 382 = .ok (.iadd, 1) := by decide +kernel
theorem dL_law_383 : decode cL_law 383 = .ok (.iaload, 1) := by decide +kernel
theorem dL_law_384 : decode cL_law 384 = .ok (.i2l, 1) := by decide +kernel
theorem dL_law_385 : decode cL_law 385 = .ok (.ldc2_w 19, 3) := by decide +kernel
theorem dL_law_388 : decode cL_law 388 = .ok (.land, 1) := by decide +kernel
theorem dL_law_389 : decode cL_law 389 = .ok (.lor, 1) := by decide +kernel
theorem dL_law_390 : decode cL_law 390 = .ok (.invokevirtual 40, 3) := by decide +kernel
theorem dL_law_393 : decode cL_law 393 = .ok (.if_icmp .eq 477, 3) := by decide +kernel
theorem dL_law_396 : decode cL_law 396 = .ok (.iconst 0, 1) := by decide +kernel
theorem dL_law_397 : decode cL_law 397 = .ok (.ireturn, 1) := by decide +kernel
theorem dL_law_398 : decode cL_law 398 = .ok (.aload_n 1, 1) := by decide +kernel
theorem dL_law_399 : decode cL_law 399 = .ok (.aload_n 0, 1) := by decide +kernel
theorem dL_law_400 : decode cL_law 400 = .ok (.iload 4, 2) := by decide +kernel
theorem dL_law_402 : decode cL_law 402 = .ok (.iconst 1, 1) := by decide +kernel
theorem dL_law_403 : decode cL_law 403 = .ok (.iadd, 1) := by decide +kernel
theorem dL_law_404 : decode cL_law 404 = .ok (.iaload, 1) := by decide +kernel
theorem dL_law_405 : decode cL_law 405 = .ok (.aload_n 0, 1) := by decide +kernel
theorem dL_law_406 : decode cL_law 406 = .ok (.iload 4, 2) := by decide +kernel
theorem dL_law_408 : decode cL_law 408 = .ok (.iconst 2, 1) := by decide +kernel
theorem dL_law_409 : decode cL_law 409 = .ok (.iadd, 1) := by decide +kernel
theorem dL_law_410 : decode cL_law 410 = .ok (.iaload, 1) := by decide +kernel
theorem dL_law_411 : decode cL_law 411 = .ok (.aload_n 0, 1) := by decide +kernel
theorem dL_law_412 : decode cL_law 412 = .ok (.iload 4, 2) := by decide +kernel
theorem dL_law_414 : decode cL_law 414 = .ok (.iconst 3, 1) := by decide +kernel
theorem dL_law_415 : decode cL_law 415 = .ok (.iadd, 1) := by decide +kernel
theorem dL_law_416 : decode cL_law 416 = .ok (.iaload, 1) := by decide +kernel
theorem dL_law_417 : decode cL_law 417 = .ok (.i2l, 1) := by decide +kernel
theorem dL_law_418 : decode cL_law 418 = .ok (.bipush 32, 2) := by decide +kernel
theorem dL_law_420 : decode cL_law 420 = .ok (.lshl, 1) := by decide +kernel
theorem dL_law_421 : decode cL_law 421 = .ok (.aload_n 0, 1) := by decide +kernel
theorem dL_law_422 : decode cL_law 422 = .ok (.iload 4, 2) := by decide +kernel
theorem dL_law_424 : decode cL_law 424 = .ok (.iconst 4, 1) := by decide +kernel
theorem dL_law_425 : decode cL_law 425 = .ok (.iadd, 1) := by decide +kernel
theorem dL_law_426 : decode cL_law 426 = .ok (.iaload, 1) := by decide +kernel
theorem dL_law_427 : decode cL_law 427 = .ok (.i2l, 1) := by decide +kernel
theorem dL_law_428 : decode cL_law 428 = .ok (.ldc2_w 19, 3) := by decide +kernel
theorem dL_law_431 : decode cL_law 431 = .ok (.land, 1) := by decide +kernel
theorem dL_law_432 : decode cL_law 432 = .ok (.lor, 1) := by decide +kernel
theorem dL_law_433 : decode cL_law 433 = .ok (.invokevirtual 41, 3) := by decide +kernel
theorem dL_law_436 : decode cL_law 436 = .ok (.aload_n 2, 1) := by decide +kernel
theorem dL_law_437 : decode cL_law 437 = .ok (.aload_n 0, 1) := by decide +kernel
theorem dL_law_438 : decode cL_law 438 = .ok (.iload 4, 2) := by decide +kernel
theorem dL_law_440 : decode cL_law 440 = .ok (.iconst 1, 1) := by decide +kernel
theorem dL_law_441 : decode cL_law 441 = .ok (.iadd, 1) := by decide +kernel
theorem dL_law_442 : decode cL_law 442 = .ok (.iaload, 1) := by decide +kernel
theorem dL_law_443 : decode cL_law 443 = .ok (.aload_n 0, 1) := by decide +kernel
theorem dL_law_444 : decode cL_law 444 = .ok (.iload 4, 2) := by decide +kernel
theorem dL_law_446 : decode cL_law 446 = .ok (.iconst 2, 1) := by decide +kernel
theorem dL_law_447 : decode cL_law 447 = .ok (.iadd, 1) := by decide +kernel
theorem dL_law_448 : decode cL_law 448 = .ok (.iaload, 1) := by decide +kernel
theorem dL_law_449 : decode cL_law 449 = .ok (.aload_n 0, 1) := by decide +kernel
theorem dL_law_450 : decode cL_law 450 = .ok (.iload 4, 2) := by decide +kernel
theorem dL_law_452 : decode cL_law 452 = .ok (.iconst 3, 1) := by decide +kernel
theorem dL_law_453 : decode cL_law 453 = .ok (.iadd, 1) := by decide +kernel
theorem dL_law_454 : decode cL_law 454 = .ok (.iaload, 1) := by decide +kernel
theorem dL_law_455 : decode cL_law 455 = .ok (.i2l, 1) := by decide +kernel
theorem dL_law_456 : decode cL_law 456 = .ok (.bipush 32, 2) := by decide +kernel
theorem dL_law_458 : decode cL_law 458 = .ok (.lshl, 1) := by decide +kernel
theorem dL_law_459 : decode cL_law 459 = .ok (.aload_n 0, 1) := by decide +kernel
theorem dL_law_460 : decode cL_law 460 = .ok (.iload 4, 2) := by decide +kernel
theorem dL_law_462 : decode cL_law 462 = .ok (.iconst 4, 1) := by decide +kernel
theorem dL_law_463 : decode cL_law 463 = .ok (.iadd, 1) := by decide +kernel
theorem dL_law_464 : decode cL_law 464 = .ok (.iaload, 1) := by decide +kernel
theorem dL_law_465 : decode cL_law 465 = .ok (.i2l, 1) := by decide +kernel
theorem dL_law_466 : decode cL_law 466 = .ok (.ldc2_w 19, 3) := by decide +kernel
theorem dL_law_469 : decode cL_law 469 = .ok (.land, 1) := by decide +kernel
theorem dL_law_470 : decode cL_law 470 = .ok (.lor, 1) := by decide +kernel
theorem dL_law_471 : decode cL_law 471 = .ok (.invokevirtual 44, 3) := by decide +kernel
theorem dL_law_474 : decode cL_law 474 = .ok (.if_icmp .eq 396, 3) := by decide +kernel
theorem dL_law_477 : decode cL_law 477 = .ok (.iconst 0, 1) := by decide +kernel
theorem dL_law_478 : decode cL_law 478 = .ok (.ireturn, 1) := by decide +kernel
theorem dL_law_479 : decode cL_law 479 = .ok (.aload_n 1, 1) := by decide +kernel
theorem dL_law_480 : decode cL_law 480 = .ok (.aload_n 0, 1) := by decide +kernel
theorem dL_law_481 : decode cL_law 481 = .ok (.iload 4, 2) := by decide +kernel
theorem dL_law_483 : decode cL_law 483 = .ok (.iconst 1, 1) := by decide +kernel
theorem dL_law_484 : decode cL_law 484 = .ok (.iadd, 1) := by decide +kernel
theorem dL_law_485 : decode cL_law 485 = .ok (.iaload, 1) := by decide +kernel
theorem dL_law_486 : decode cL_law 486 = .ok (.aload_n 0, 1) := by decide +kernel
theorem dL_law_487 : decode cL_law 487 = .ok (.iload 4, 2) := by decide +kernel
theorem dL_law_489 : decode cL_law 489 = .ok (.iconst 2, 1) := by decide +kernel
theorem dL_law_490 : decode cL_law 490 = .ok (.iadd, 1) := by decide +kernel
theorem dL_law_491 : decode cL_law 491 = .ok (.iaload, 1) := by decide +kernel
theorem dL_law_492 : decode cL_law 492 = .ok (.i2l, 1) := by decide +kernel
theorem dL_law_493 : decode cL_law 493 = .ok (.bipush 32, 2) := by decide +kernel
theorem dL_law_495 : decode cL_law 495 = .ok (.lshl, 1) := by decide +kernel
theorem dL_law_496 : decode cL_law 496 = .ok (.aload_n 0, 1) := by decide +kernel
theorem dL_law_497 : decode cL_law 497 = .ok (.iload 4, 2) := by decide +kernel
theorem dL_law_499 : decode cL_law 499 = .ok (.iconst 3, 1) := by decide +kernel
theorem dL_law_500 : decode cL_law 500 = .ok (.iadd, 1) := by decide +kernel
theorem dL_law_501 : decode cL_law 501 = .ok (.iaload, 1) := by decide +kernel
theorem dL_law_502 : decode cL_law 502 = .ok (.i2l, 1) := by decide +kernel
theorem dL_law_503 : decode cL_law 503 = .ok (.ldc2_w 19, 3) := by decide +kernel
theorem dL_law_506 : decode cL_law 506 = .ok (.land, 1) := by decide +kernel
theorem dL_law_507 : decode cL_law 507 = .ok (.lor, 1) := by decide +kernel
theorem dL_law_508 : decode cL_law 508 = .ok (.invokevirtual 45, 3) := by decide +kernel
theorem dL_law_511 : decode cL_law 511 = .ok (.aload_n 2, 1) := by decide +kernel
theorem dL_law_512 : decode cL_law 512 = .ok (.aload_n 0, 1) := by decide +kernel
theorem dL_law_513 : decode cL_law 513 = .ok (.iload 4, 2) := by decide +kernel
theorem dL_law_515 : decode cL_law 515 = .ok (.iconst 1, 1) := by decide +kernel
theorem dL_law_516 : decode cL_law 516 = .ok (.iadd, 1) := by decide +kernel
theorem dL_law_517 : decode cL_law 517 = .ok (.iaload, 1) := by decide +kernel
theorem dL_law_518 : decode cL_law 518 = .ok (.aload_n 0, 1) := by decide +kernel
theorem dL_law_519 : decode cL_law 519 = .ok (.iload 4, 2) := by decide +kernel
theorem dL_law_521 : decode cL_law 521 = .ok (.iconst 2, 1) := by decide +kernel
theorem dL_law_522 : decode cL_law 522 = .ok (.iadd, 1) := by decide +kernel
theorem dL_law_523 : decode cL_law 523 = .ok (.iaload, 1) := by decide +kernel
theorem dL_law_524 : decode cL_law 524 = .ok (.i2l, 1) := by decide +kernel
theorem dL_law_525 : decode cL_law 525 = .ok (.bipush 32, 2) := by decide +kernel
theorem dL_law_527 : decode cL_law 527 = .ok (.lshl, 1) := by decide +kernel
theorem dL_law_528 : decode cL_law 528 = .ok (.aload_n 0, 1) := by decide +kernel
theorem dL_law_529 : decode cL_law 529 = .ok (.iload 4, 2) := by decide +kernel
theorem dL_law_531 : decode cL_law 531 = .ok (.iconst 3, 1) := by decide +kernel
theorem dL_law_532 : decode cL_law 532 = .ok (.iadd, 1) := by decide +kernel
theorem dL_law_533 : decode cL_law 533 = .ok (.iaload, 1) := by decide +kernel
theorem dL_law_534 : decode cL_law 534 = .ok (.i2l, 1) := by decide +kernel
theorem dL_law_535 : decode cL_law 535 = .ok (.ldc2_w 19, 3) := by decide +kernel
theorem dL_law_538 : decode cL_law 538 = .ok (.land, 1) := by decide +kernel
theorem dL_law_539 : decode cL_law 539 = .ok (.lor, 1) := by decide +kernel
theorem dL_law_540 : decode cL_law 540 = .ok (.invokevirtual 48, 3) := by decide +kernel
theorem dL_law_543 : decode cL_law 543 = .ok (.if_icmp .eq 327, 3) := by decide +kernel
theorem dL_law_546 : decode cL_law 546 = .ok (.iconst 0, 1) := by decide +kernel
theorem dL_law_547 : decode cL_law 547 = .ok (.ireturn, 1) := by decide +kernel
theorem dL_law_548 : decode cL_law 548 = .ok (.aload_n 1, 1) := by decide +kernel
theorem dL_law_549 : decode cL_law 549 = .ok (.aload_n 0, 1) := by decide +kernel
theorem dL_law_550 : decode cL_law 550 = .ok (.iload 4, 2) := by decide +kernel
theorem dL_law_552 : decode cL_law 552 = .ok (.iconst 1, 1) := by decide +kernel
theorem dL_law_553 : decode cL_law 553 = .ok (.iadd, 1) := by decide +kernel
theorem dL_law_554 : decode cL_law 554 = .ok (.iaload, 1) := by decide +kernel
theorem dL_law_555 : decode cL_law 555 = .ok (.invokevirtual 49, 3) := by decide +kernel
theorem dL_law_558 : decode cL_law 558 = .ok (.aload_n 2, 1) := by decide +kernel
theorem dL_law_559 : decode cL_law 559 = .ok (.aload_n 0, 1) := by decide +kernel
theorem dL_law_560 : decode cL_law 560 = .ok (.iload 4, 2) := by decide +kernel
theorem dL_law_562 : decode cL_law 562 = .ok (.iconst 1, 1) := by decide +kernel
theorem dL_law_563 : decode cL_law 563 = .ok (.iadd, 1) := by decide +kernel
theorem dL_law_564 : decode cL_law 564 = .ok (.iaload, 1) := by decide +kernel
theorem dL_law_565 : decode cL_law 565 = .ok (.invokevirtual 53, 3) := by decide +kernel
theorem dL_law_568 : decode cL_law 568 = .ok (.lcmp, 1) := by decide +kernel
theorem dL_law_569 : decode cL_law 569 = .ok (.ifCond .eq 301, 3) := by decide +kernel
theorem dL_law_572 : decode cL_law 572 = .ok (.iconst 0, 1) := by decide +kernel
theorem dL_law_573 : decode cL_law 573 = .ok (.ireturn, 1) := by decide +kernel
theorem dL_law_574 : decode cL_law 574 = .ok (.aload_n 1, 1) := by decide +kernel
theorem dL_law_575 : decode cL_law 575 = .ok (.aload_n 0, 1) := by decide +kernel
theorem dL_law_576 : decode cL_law 576 = .ok (.iload 4, 2) := by decide +kernel
theorem dL_law_578 : decode cL_law 578 = .ok (.iconst 1, 1) := by decide +kernel
theorem dL_law_579 : decode cL_law 579 = .ok (.iadd, 1) := by decide +kernel
theorem dL_law_580 : decode cL_law 580 = .ok (.iaload, 1) := by decide +kernel
theorem dL_law_581 : decode cL_law 581 = .ok (.aload_n 0, 1) := by decide +kernel
theorem dL_law_582 : decode cL_law 582 = .ok (.iload 4, 2) := by decide +kernel
theorem dL_law_584 : decode cL_law 584 = .ok (.iconst 2, 1) := by decide +kernel
theorem dL_law_585 : decode cL_law 585 = .ok (.iadd, 1) := by decide +kernel
theorem dL_law_586 : decode cL_law 586 = .ok (.iaload, 1) := by decide +kernel
theorem dL_law_587 : decode cL_law 587 = .ok (.aload_n 0, 1) := by decide +kernel
theorem dL_law_588 : decode cL_law 588 = .ok (.iload 4, 2) := by decide +kernel
theorem dL_law_590 : decode cL_law 590 = .ok (.iconst 3, 1) := by decide +kernel
theorem dL_law_591 : decode cL_law 591 = .ok (.iadd, 1) := by decide +kernel
theorem dL_law_592 : decode cL_law 592 = .ok (.iaload, 1) := by decide +kernel
theorem dL_law_593 : decode cL_law 593 = .ok (.invokevirtual 54, 3) := by decide +kernel
theorem dL_law_596 : decode cL_law 596 = .ok (.aload_n 2, 1) := by decide +kernel
theorem dL_law_597 : decode cL_law 597 = .ok (.aload_n 0, 1) := by decide +kernel
theorem dL_law_598 : decode cL_law 598 = .ok (.iload 4, 2) := by decide +kernel
theorem dL_law_600 : decode cL_law 600 = .ok (.iconst 1, 1) := by decide +kernel
theorem dL_law_601 : decode cL_law 601 = .ok (.iadd, 1) := by decide +kernel
theorem dL_law_602 : decode cL_law 602 = .ok (.iaload, 1) := by decide +kernel
theorem dL_law_603 : decode cL_law 603 = .ok (.aload_n 0, 1) := by decide +kernel
theorem dL_law_604 : decode cL_law 604 = .ok (.iload 4, 2) := by decide +kernel
theorem dL_law_606 : decode cL_law 606 = .ok (.iconst 2, 1) := by decide +kernel
theorem dL_law_607 : decode cL_law 607 = .ok (.iadd, 1) := by decide +kernel
theorem dL_law_608 : decode cL_law 608 = .ok (.iaload, 1) := by decide +kernel
theorem dL_law_609 : decode cL_law 609 = .ok (.aload_n 0, 1) := by decide +kernel
theorem dL_law_610 : decode cL_law 610 = .ok (.iload 4, 2) := by decide +kernel
theorem dL_law_612 : decode cL_law 612 = .ok (.iconst 3, 1) := by decide +kernel
theorem dL_law_613 : decode cL_law 613 = .ok (.iadd, 1) := by decide +kernel
theorem dL_law_614 : decode cL_law 614 = .ok (.iaload, 1) := by decide +kernel
theorem dL_law_615 : decode cL_law 615 = .ok (.invokevirtual 58, 3) := by decide +kernel
theorem dL_law_618 : decode cL_law 618 = .ok (.if_icmp .eq 252, 3) := by decide +kernel
theorem dL_law_621 : decode cL_law 621 = .ok (.iconst 0, 1) := by decide +kernel
theorem dL_law_622 : decode cL_law 622 = .ok (.ireturn, 1) := by decide +kernel
theorem dL_law_623 : decode cL_law 623 = .ok (.aload_n 1, 1) := by decide +kernel
theorem dL_law_624 : decode cL_law 624 = .ok (.aload_n 0, 1) := by decide +kernel
theorem dL_law_625 : decode cL_law 625 = .ok (.iload 4, 2) := by decide +kernel
theorem dL_law_627 : decode cL_law 627 = .ok (.iconst 1, 1) := by decide +kernel
theorem dL_law_628 : decode cL_law 628 = .ok (.iadd, 1) := by decide +kernel
theorem dL_law_629 : decode cL_law 629 = .ok (.iaload, 1) := by decide +kernel
theorem dL_law_630 : decode cL_law 630 = .ok (.invokevirtual 59, 3) := by decide +kernel
theorem dL_law_633 : decode cL_law 633 = .ok (.aload_n 2, 1) := by decide +kernel
theorem dL_law_634 : decode cL_law 634 = .ok (.aload_n 0, 1) := by decide +kernel
theorem dL_law_635 : decode cL_law 635 = .ok (.iload 4, 2) := by decide +kernel
theorem dL_law_637 : decode cL_law 637 = .ok (.iconst 1, 1) := by decide +kernel
theorem dL_law_638 : decode cL_law 638 = .ok (.iadd, 1) := by decide +kernel
theorem dL_law_639 : decode cL_law 639 = .ok (.iaload, 1) := by decide +kernel
theorem dL_law_640 : decode cL_law 640 = .ok (.invokevirtual 62, 3) := by decide +kernel
theorem dL_law_643 : decode cL_law 643 = .ok (.lcmp, 1) := by decide +kernel
theorem dL_law_644 : decode cL_law 644 = .ok (.ifCond .eq 226, 3) := by decide +kernel
theorem dL_law_647 : decode cL_law 647 = .ok (.iconst 0, 1) := by decide +kernel
theorem dL_law_648 : decode cL_law 648 = .ok (.ireturn, 1) := by decide +kernel
theorem dL_law_649 : decode cL_law 649 = .ok (.aload_n 1, 1) := by decide +kernel
theorem dL_law_650 : decode cL_law 650 = .ok (.aload_n 0, 1) := by decide +kernel
theorem dL_law_651 : decode cL_law 651 = .ok (.iload 4, 2) := by decide +kernel
theorem dL_law_653 : decode cL_law 653 = .ok (.iconst 1, 1) := by decide +kernel
theorem dL_law_654 : decode cL_law 654 = .ok (.iadd, 1) := by decide +kernel
theorem dL_law_655 : decode cL_law 655 = .ok (.iaload, 1) := by decide +kernel
theorem dL_law_656 : decode cL_law 656 = .ok (.invokevirtual 63, 3) := by decide +kernel
theorem dL_law_659 : decode cL_law 659 = .ok (.aload_n 2, 1) := by decide +kernel
theorem dL_law_660 : decode cL_law 660 = .ok (.aload_n 0, 1) := by decide +kernel
theorem dL_law_661 : decode cL_law 661 = .ok (.iload 4, 2) := by decide +kernel
theorem dL_law_663 : decode cL_law 663 = .ok (.iconst 1, 1) := by decide +kernel
theorem dL_law_664 : decode cL_law 664 = .ok (.iadd, 1) := by decide +kernel
theorem dL_law_665 : decode cL_law 665 = .ok (.iaload, 1) := by decide +kernel
theorem dL_law_666 : decode cL_law 666 = .ok (.invokevirtual 66, 3) := by decide +kernel
theorem dL_law_669 : decode cL_law 669 = .ok (.lcmp, 1) := by decide +kernel
theorem dL_law_670 : decode cL_law 670 = .ok (.ifCond .eq 200, 3) := by decide +kernel
theorem dL_law_673 : decode cL_law 673 = .ok (.iconst 0, 1) := by decide +kernel
theorem dL_law_674 : decode cL_law 674 = .ok (.ireturn, 1) := by decide +kernel
theorem dL_law_675 : decode cL_law 675 = .ok (.aload_n 1, 1) := by decide +kernel
theorem dL_law_676 : decode cL_law 676 = .ok (.aload_n 0, 1) := by decide +kernel
theorem dL_law_677 : decode cL_law 677 = .ok (.iload 4, 2) := by decide +kernel
theorem dL_law_679 : decode cL_law 679 = .ok (.iconst 1, 1) := by decide +kernel
theorem dL_law_680 : decode cL_law 680 = .ok (.iadd, 1) := by decide +kernel
theorem dL_law_681 : decode cL_law 681 = .ok (.iaload, 1) := by decide +kernel
theorem dL_law_682 : decode cL_law 682 = .ok (.invokevirtual 67, 3) := by decide +kernel
theorem dL_law_685 : decode cL_law 685 = .ok (.aload_n 2, 1) := by decide +kernel
theorem dL_law_686 : decode cL_law 686 = .ok (.aload_n 0, 1) := by decide +kernel
theorem dL_law_687 : decode cL_law 687 = .ok (.iload 4, 2) := by decide +kernel
theorem dL_law_689 : decode cL_law 689 = .ok (.iconst 1, 1) := by decide +kernel
theorem dL_law_690 : decode cL_law 690 = .ok (.iadd, 1) := by decide +kernel
theorem dL_law_691 : decode cL_law 691 = .ok (.iaload, 1) := by decide +kernel
theorem dL_law_692 : decode cL_law 692 = .ok (.invokevirtual 71, 3) := by decide +kernel
theorem dL_law_695 : decode cL_law 695 = .ok (.if_icmp .eq 175, 3) := by decide +kernel
theorem dL_law_698 : decode cL_law 698 = .ok (.iconst 0, 1) := by decide +kernel
theorem dL_law_699 : decode cL_law 699 = .ok (.ireturn, 1) := by decide +kernel
theorem dL_law_700 : decode cL_law 700 = .ok (.aload_n 1, 1) := by decide +kernel
theorem dL_law_701 : decode cL_law 701 = .ok (.aload_n 0, 1) := by decide +kernel
theorem dL_law_702 : decode cL_law 702 = .ok (.iload 4, 2) := by decide +kernel
theorem dL_law_704 : decode cL_law 704 = .ok (.iconst 1, 1) := by decide +kernel
theorem dL_law_705 : decode cL_law 705 = .ok (.iadd, 1) := by decide +kernel
theorem dL_law_706 : decode cL_law 706 = .ok (.iaload, 1) := by decide +kernel
theorem dL_law_707 : decode cL_law 707 = .ok (.i2l, 1) := by decide +kernel
theorem dL_law_708 : decode cL_law 708 = .ok (.bipush 32, 2) := by decide +kernel
theorem dL_law_710 : decode cL_law 710 = .ok (.lshl, 1) := by decide +kernel
theorem dL_law_711 : decode cL_law 711 = .ok (.aload_n 0, 1) := by decide +kernel
theorem dL_law_712 : decode cL_law 712 = .ok (.iload 4, 2) := by decide +kernel
theorem dL_law_714 : decode cL_law 714 = .ok (.iconst 2, 1) := by decide +kernel
theorem dL_law_715 : decode cL_law 715 = .ok (.iadd, 1) := by decide +kernel
theorem dL_law_716 : decode cL_law 716 = .ok (.iaload, 1) := by decide +kernel
theorem dL_law_717 : decode cL_law 717 = .ok (.i2l, 1) := by decide +kernel
theorem dL_law_718 : decode cL_law 718 = .ok (.ldc2_w 19, 3) := by decide +kernel
theorem dL_law_721 : decode cL_law 721 = .ok (.land, 1) := by decide +kernel
theorem dL_law_722 : decode cL_law 722 = .ok (.lor, 1) := by decide +kernel
theorem dL_law_723 : decode cL_law 723 = .ok (.aload_n 0, 1) := by decide +kernel
theorem dL_law_724 : decode cL_law 724 = .ok (.iload 4, 2) := by decide +kernel
theorem dL_law_726 : decode cL_law 726 = .ok (.iconst 3, 1) := by decide +kernel
theorem dL_law_727 : decode cL_law 727 = .ok (.iadd, 1) := by decide +kernel
theorem dL_law_728 : decode cL_law 728 = .ok (.iaload, 1) := by decide +kernel
theorem dL_law_729 : decode cL_law 729 = .ok (.i2l, 1) := by decide +kernel
theorem dL_law_730 : decode cL_law 730 = .ok (.bipush 32, 2) := by decide +kernel
theorem dL_law_732 : decode cL_law 732 = .ok (.lshl, 1) := by decide +kernel
theorem dL_law_733 : decode cL_law 733 = .ok (.aload_n 0, 1) := by decide +kernel
theorem dL_law_734 : decode cL_law 734 = .ok (.iload 4, 2) := by decide +kernel
theorem dL_law_736 : decode cL_law 736 = .ok (.iconst 4, 1) := by decide +kernel
theorem dL_law_737 : decode cL_law 737 = .ok (.iadd, 1) := by decide +kernel
theorem dL_law_738 : decode cL_law 738 = .ok (.iaload, 1) := by decide +kernel
theorem dL_law_739 : decode cL_law 739 = .ok (.i2l, 1) := by decide +kernel
theorem dL_law_740 : decode cL_law 740 = .ok (.ldc2_w 19, 3) := by decide +kernel
theorem dL_law_743 : decode cL_law 743 = .ok (.land, 1) := by decide +kernel
theorem dL_law_744 : decode cL_law 744 = .ok (.lor, 1) := by decide +kernel
theorem dL_law_745 : decode cL_law 745 = .ok (.invokevirtual 72, 3) := by decide +kernel
theorem dL_law_748 : decode cL_law 748 = .ok (.aload_n 2, 1) := by decide +kernel
theorem dL_law_749 : decode cL_law 749 = .ok (.aload_n 0, 1) := by decide +kernel
theorem dL_law_750 : decode cL_law 750 = .ok (.iload 4, 2) := by decide +kernel
theorem dL_law_752 : decode cL_law 752 = .ok (.iconst 1, 1) := by decide +kernel
theorem dL_law_753 : decode cL_law 753 = .ok (.iadd, 1) := by decide +kernel
theorem dL_law_754 : decode cL_law 754 = .ok (.iaload, 1) := by decide +kernel
theorem dL_law_755 : decode cL_law 755 = .ok (.i2l, 1) := by decide +kernel
theorem dL_law_756 : decode cL_law 756 = .ok (.bipush 32, 2) := by decide +kernel
theorem dL_law_758 : decode cL_law 758 = .ok (.lshl, 1) := by decide +kernel
theorem dL_law_759 : decode cL_law 759 = .ok (.aload_n 0, 1) := by decide +kernel
theorem dL_law_760 : decode cL_law 760 = .ok (.iload 4, 2) := by decide +kernel
theorem dL_law_762 : decode cL_law 762 = .ok (.iconst 2, 1) := by decide +kernel
theorem dL_law_763 : decode cL_law 763 = .ok (.iadd, 1) := by decide +kernel
theorem dL_law_764 : decode cL_law 764 = .ok (.iaload, 1) := by decide +kernel
theorem dL_law_765 : decode cL_law 765 = .ok (.i2l, 1) := by decide +kernel
theorem dL_law_766 : decode cL_law 766 = .ok (.ldc2_w 19, 3) := by decide +kernel
theorem dL_law_769 : decode cL_law 769 = .ok (.land, 1) := by decide +kernel
theorem dL_law_770 : decode cL_law 770 = .ok (.lor, 1) := by decide +kernel
theorem dL_law_771 : decode cL_law 771 = .ok (.aload_n 0, 1) := by decide +kernel
theorem dL_law_772 : decode cL_law 772 = .ok (.iload 4, 2) := by decide +kernel
theorem dL_law_774 : decode cL_law 774 = .ok (.iconst 3, 1) := by decide +kernel
theorem dL_law_775 : decode cL_law 775 = .ok (.iadd, 1) := by decide +kernel
theorem dL_law_776 : decode cL_law 776 = .ok (.iaload, 1) := by decide +kernel
theorem dL_law_777 : decode cL_law 777 = .ok (.i2l, 1) := by decide +kernel
theorem dL_law_778 : decode cL_law 778 = .ok (.bipush 32, 2) := by decide +kernel
theorem dL_law_780 : decode cL_law 780 = .ok (.lshl, 1) := by decide +kernel
theorem dL_law_781 : decode cL_law 781 = .ok (.aload_n 0, 1) := by decide +kernel
theorem dL_law_782 : decode cL_law 782 = .ok (.iload 4, 2) := by decide +kernel
theorem dL_law_784 : decode cL_law 784 = .ok (.iconst 4, 1) := by decide +kernel
theorem dL_law_785 : decode cL_law 785 = .ok (.iadd, 1) := by decide +kernel
theorem dL_law_786 : decode cL_law 786 = .ok (.iaload, 1) := by decide +kernel
theorem dL_law_787 : decode cL_law 787 = .ok (.i2l, 1) := by decide +kernel
theorem dL_law_788 : decode cL_law 788 = .ok (.ldc2_w 19, 3) := by decide +kernel
theorem dL_law_791 : decode cL_law 791 = .ok (.land, 1) := by decide +kernel
theorem dL_law_792 : decode cL_law 792 = .ok (.lor, 1) := by decide +kernel
theorem dL_law_793 : decode cL_law 793 = .ok (.invokevirtual 76, 3) := by decide +kernel
theorem dL_law_796 : decode cL_law 796 = .ok (.if_icmp .eq 74, 3) := by decide +kernel
theorem dL_law_799 : decode cL_law 799 = .ok (.iconst 0, 1) := by decide +kernel
theorem dL_law_800 : decode cL_law 800 = .ok (.ireturn, 1) := by decide +kernel
theorem dL_law_801 : decode cL_law 801 = .ok (.aload_n 1, 1) := by decide +kernel
theorem dL_law_802 : decode cL_law 802 = .ok (.aload_n 0, 1) := by decide +kernel
theorem dL_law_803 : decode cL_law 803 = .ok (.iload 4, 2) := by decide +kernel
theorem dL_law_805 : decode cL_law 805 = .ok (.iconst 1, 1) := by decide +kernel
theorem dL_law_806 : decode cL_law 806 = .ok (.iadd, 1) := by decide +kernel
theorem dL_law_807 : decode cL_law 807 = .ok (.iaload, 1) := by decide +kernel
theorem dL_law_808 : decode cL_law 808 = .ok (.aload_n 0, 1) := by decide +kernel
theorem dL_law_809 : decode cL_law 809 = .ok (.iload 4, 2) := by decide +kernel
theorem dL_law_811 : decode cL_law 811 = .ok (.iconst 2, 1) := by decide +kernel
theorem dL_law_812 : decode cL_law 812 = .ok (.iadd, 1) := by decide +kernel
theorem dL_law_813 : decode cL_law 813 = .ok (.iaload, 1) := by decide +kernel
theorem dL_law_814 : decode cL_law 814 = .ok (.i2l, 1) := by decide +kernel
theorem dL_law_815 : decode cL_law 815 = .ok (.bipush 32, 2) := by decide +kernel
theorem dL_law_817 : decode cL_law 817 = .ok (.lshl, 1) := by decide +kernel
theorem dL_law_818 : decode cL_law 818 = .ok (.aload_n 0, 1) := by decide +kernel
theorem dL_law_819 : decode cL_law 819 = .ok (.iload 4, 2) := by decide +kernel
theorem dL_law_821 : decode cL_law 821 = .ok (.iconst 3, 1) := by decide +kernel
theorem dL_law_822 : decode cL_law 822 = .ok (.iadd, 1) := by decide +kernel
theorem dL_law_823 : decode cL_law 823 = .ok (.iaload, 1) := by decide +kernel
theorem dL_law_824 : decode cL_law 824 = .ok (.i2l, 1) := by decide +kernel
theorem dL_law_825 : decode cL_law 825 = .ok (.ldc2_w 19, 3) := by decide +kernel
theorem dL_law_828 : decode cL_law 828 = .ok (.land, 1) := by decide +kernel
theorem dL_law_829 : decode cL_law 829 = .ok (.lor, 1) := by decide +kernel
theorem dL_law_830 : decode cL_law 830 = .ok (.invokevirtual 77, 3) := by decide +kernel
theorem dL_law_833 : decode cL_law 833 = .ok (.aload_n 2, 1) := by decide +kernel
theorem dL_law_834 : decode cL_law 834 = .ok (.aload_n 0, 1) := by decide +kernel
theorem dL_law_835 : decode cL_law 835 = .ok (.iload 4, 2) := by decide +kernel
theorem dL_law_837 : decode cL_law 837 = .ok (.iconst 1, 1) := by decide +kernel
theorem dL_law_838 : decode cL_law 838 = .ok (.iadd, 1) := by decide +kernel
theorem dL_law_839 : decode cL_law 839 = .ok (.iaload, 1) := by decide +kernel
theorem dL_law_840 : decode cL_law 840 = .ok (.aload_n 0, 1) := by decide +kernel
theorem dL_law_841 : decode cL_law 841 = .ok (.iload 4, 2) := by decide +kernel
theorem dL_law_843 : decode cL_law 843 = .ok (.iconst 2, 1) := by decide +kernel
theorem dL_law_844 : decode cL_law 844 = .ok (.iadd, 1) := by decide +kernel
theorem dL_law_845 : decode cL_law 845 = .ok (.iaload, 1) := by decide +kernel
theorem dL_law_846 : decode cL_law 846 = .ok (.i2l, 1) := by decide +kernel
theorem dL_law_847 : decode cL_law 847 = .ok (.bipush 32, 2) := by decide +kernel
theorem dL_law_849 : decode cL_law 849 = .ok (.lshl, 1) := by decide +kernel
theorem dL_law_850 : decode cL_law 850 = .ok (.aload_n 0, 1) := by decide +kernel
theorem dL_law_851 : decode cL_law 851 = .ok (.iload 4, 2) := by decide +kernel
theorem dL_law_853 : decode cL_law 853 = .ok (.iconst 3, 1) := by decide +kernel
theorem dL_law_854 : decode cL_law 854 = .ok (.iadd, 1) := by decide +kernel
theorem dL_law_855 : decode cL_law 855 = .ok (.iaload, 1) := by decide +kernel
theorem dL_law_856 : decode cL_law 856 = .ok (.i2l, 1) := by decide +kernel
theorem dL_law_857 : decode cL_law 857 = .ok (.ldc2_w 19, 3) := by decide +kernel
theorem dL_law_860 : decode cL_law 860 = .ok (.land, 1) := by decide +kernel
theorem dL_law_861 : decode cL_law 861 = .ok (.lor, 1) := by decide +kernel
theorem dL_law_862 : decode cL_law 862 = .ok (.invokevirtual 80, 3) := by decide +kernel
theorem dL_law_865 : decode cL_law 865 = .ok (.if_icmp .eq 5, 3) := by decide +kernel
theorem dL_law_868 : decode cL_law 868 = .ok (.iconst 0, 1) := by decide +kernel
theorem dL_law_869 : decode cL_law 869 = .ok (.ireturn, 1) := by decide +kernel
theorem dL_law_870 : decode cL_law 870 = .ok (.iinc 4 6, 3) := by decide +kernel
end
section
/-! A LOGIC OVER THE KIT'S ROWS: the heap as a function from addresses to cells (hF), all numbers as Ints (iZ, lZ), one judgement J (a place in a method's code, its locals as an association list, its operand stack, the heap function), one form of contract Ct. -/
-- the classes whose objects the worlds hold, by their places
abbrev vwCl : List vw_C := [(RJ0, TJ0, 2), (RJx4a65c, TJx4a65c, 3), (RX0, TX0, 3), (RX1, TX1, 4), (RX2, TX2, 7), (RX3, TX3, 10), (RX4, TX4, 13), (RX5, TX5, 3), (RX6, TX6, 22)]
-- numbers
def iZ (z : Int) : Int32 := Int32.ofInt z
def lZ (z : Int) : Int64 := Int64.ofInt z
theorem iZ_toInt {z : Int} (h : -2147483648 ≤ z ∧ z < 2147483648) : (iZ z).toInt = z := by
  have e : ((Int32.size : Nat) : Int) = 4294967296 := rfl
  unfold iZ; rw [Int32.toInt_ofInt]; exact Int.bmod_eq_of_le (by omega) (by omega)
theorem lZ_toInt {z : Int} (h : -9223372036854775808 ≤ z ∧ z < 9223372036854775808) : (lZ z).toInt = z := by
  have e : ((Int64.size : Nat) : Int) = 18446744073709551616 := rfl
  unfold lZ; rw [Int64.toInt_ofInt]; exact Int.bmod_eq_of_le (by omega) (by omega)
theorem iZ_of (x : Int32) : ∃ z : Int, (-2147483648 ≤ z ∧ z < 2147483648) ∧ x = iZ z := by
  refine ⟨x.toInt, ⟨?_, ?_⟩, ?_⟩
  · have := Int32.le_toInt x; omega
  · have := Int32.toInt_lt x; omega
  · unfold iZ; rw [Int32.ofInt_toInt]
theorem lZ_of (x : Int64) : ∃ z : Int, (-9223372036854775808 ≤ z ∧ z < 9223372036854775808) ∧ x = lZ z := by
  refine ⟨x.toInt, ⟨?_, ?_⟩, ?_⟩
  · have := Int64.le_toInt x; omega
  · have := Int64.toInt_lt x; omega
  · unfold lZ; rw [Int64.ofInt_toInt]
theorem iZ_add (a b : Int) : iZ a + iZ b = iZ (a + b) := by unfold iZ; rw [Int32.ofInt_add]
theorem iZ_sub (a b : Int) : iZ a - iZ b = iZ (a - b) := by unfold iZ; rw [Int32.ofInt_sub]
theorem iZ_mul (a b : Int) : iZ a * iZ b = iZ (a * b) := by unfold iZ; rw [Int32.ofInt_mul]
theorem iZ_neg (a : Int) : - iZ a = iZ (-a) := by unfold iZ; rw [Int32.ofInt_neg]
theorem lZ_add (a b : Int) : lZ a + lZ b = lZ (a + b) := by unfold lZ; rw [Int64.ofInt_add]
theorem lZ_sub (a b : Int) : lZ a - lZ b = lZ (a - b) := by unfold lZ; rw [Int64.ofInt_sub]
theorem lZ_mul (a b : Int) : lZ a * lZ b = lZ (a * b) := by unfold lZ; rw [Int64.ofInt_mul]
theorem iZ_inj {a b : Int} (ha : -2147483648 ≤ a ∧ a < 2147483648) (hb : -2147483648 ≤ b ∧ b < 2147483648) : iZ a = iZ b ↔ a = b := by
  constructor
  · intro h
    have := congrArg Int32.toInt h
    rwa [iZ_toInt ha, iZ_toInt hb] at this
  · intro h; rw [h]
theorem lZ_inj {a b : Int} (ha : -9223372036854775808 ≤ a ∧ a < 9223372036854775808) (hb : -9223372036854775808 ≤ b ∧ b < 9223372036854775808) : lZ a = lZ b ↔ a = b := by
  constructor
  · intro h
    have := congrArg Int64.toInt h
    rwa [lZ_toInt ha, lZ_toInt hb] at this
  · intro h; rw [h]
theorem iZ_le {a b : Int} (ha : -2147483648 ≤ a ∧ a < 2147483648) (hb : -2147483648 ≤ b ∧ b < 2147483648) : iZ a ≤ iZ b ↔ a ≤ b := by
  rw [Int32.le_iff_toInt_le, iZ_toInt ha, iZ_toInt hb]
theorem iZ_lt {a b : Int} (ha : -2147483648 ≤ a ∧ a < 2147483648) (hb : -2147483648 ≤ b ∧ b < 2147483648) : iZ a < iZ b ↔ a < b := by
  rw [Int32.lt_iff_toInt_lt, iZ_toInt ha, iZ_toInt hb]
theorem lZ_lt {a b : Int} (ha : -9223372036854775808 ≤ a ∧ a < 9223372036854775808) (hb : -9223372036854775808 ≤ b ∧ b < 9223372036854775808) : lZ a < lZ b ↔ a < b := by
  rw [Int64.lt_iff_toInt_lt, lZ_toInt ha, lZ_toInt hb]
theorem iZ_toL {z : Int} (h : -2147483648 ≤ z ∧ z < 2147483648) : (iZ z).toInt64 = lZ z := by
  apply Int64.toInt_inj.mp
  rw [Int32.toInt_toInt64, iZ_toInt h, lZ_toInt (by omega)]
theorem lZ_toI {z : Int} (h : -2147483648 ≤ z ∧ z < 2147483648) : (lZ z).toInt32 = iZ z := by
  apply Int32.toInt_inj.mp
  rw [Int64.toInt_toInt32, lZ_toInt (by omega), iZ_toInt h]
  exact Int.bmod_eq_of_le (by omega) (by omega)
theorem iZ_div {a b : Int} (ha : 0 ≤ a ∧ a < 2147483648) (hb : 0 < b ∧ b < 2147483648) : iZ a / iZ b = iZ (a / b) := by
  apply Int32.toInt_inj.mp
  have h1 : a / b ≤ a := Int.ediv_le_self _ ha.1
  have h0 : 0 ≤ a / b := Int.ediv_nonneg ha.1 (by omega)
  rw [Int32.toInt_div, iZ_toInt (by omega), iZ_toInt (by omega), iZ_toInt (by omega), Int.tdiv_eq_ediv_of_nonneg ha.1]
  exact Int.bmod_eq_of_le (by omega) (by omega)
theorem lZ_div {a b : Int} (ha : 0 ≤ a ∧ a < 9223372036854775808) (hb : 0 < b ∧ b < 9223372036854775808) : lZ a / lZ b = lZ (a / b) := by
  apply Int64.toInt_inj.mp
  have h1 : a / b ≤ a := Int.ediv_le_self _ ha.1
  have h0 : 0 ≤ a / b := Int.ediv_nonneg ha.1 (by omega)
  rw [Int64.toInt_div, lZ_toInt (by omega), lZ_toInt (by omega), lZ_toInt (by omega), Int.tdiv_eq_ediv_of_nonneg ha.1]
  exact Int.bmod_eq_of_le (by omega) (by omega)
theorem iZ_ne0 {b : Int} (hb : 0 < b ∧ b < 2147483648) : ¬ iZ b = 0 := by
  intro h
  have h2 := (iZ_inj (a := b) (b := 0) (by omega) (by omega)).mp h
  omega
theorem lZ_ne0 {b : Int} (hb : 0 < b ∧ b < 9223372036854775808) : ¬ lZ b = 0 := by
  intro h
  have h2 := (lZ_inj (a := b) (b := 0) (by omega) (by omega)).mp h
  omega
theorem iZ_in {i : Int} {n : Nat} (h : 0 ≤ i ∧ i < (n : Int)) (hn : i < 2147483648) : vp_in (iZ i) n := by
  rw [vp_in_iff, iZ_toInt (by omega)]; exact h
theorem iZ_cl {i : Int} (h : 0 ≤ i ∧ i < 2147483648) : (iZ i).toNatClampNeg = i.toNat := by
  show (iZ i).toInt.toNat = _
  rw [iZ_toInt (by omega)]
-- the heap as a function
abbrev hF : Type := Nat → Option va_E
def hup (h : hF) (a : Nat) (e : va_E) : hF := fun b => if b = a then some e else h b
theorem hup_eq (h : hF) (a : Nat) (e : va_E) : hup h a e a = some e := by simp [hup]
theorem hup_ne {h : hF} {a : Nat} {e : va_E} {b : Nat} (n : b ≠ a) : hup h a e b = h b := by simp [hup, n]
theorem hup_k {h : hF} {a b : Nat} {e x y : va_E} (hb : h b = some x) (ha : h a = some y) (hn : x ≠ y) : hup h a e b = some x := by
  rw [hup_ne, hb]
  intro q
  subst q
  rw [hb] at ha
  exact hn (Option.some.inj ha)
/-- array classes: int, long, boolean, Object; the empty array of ArrayList -/
abbrev Gt : Type := va_G × (Nat → ClassId) × Nat
abbrev gI (G : Gt) (n : Nat) (f : Nat → Int) : va_E := .inl (G.2.1 0, n, .inl (fun j => iZ (f j)))
abbrev gJ (G : Gt) (n : Nat) (f : Nat → Int) : va_E := .inl (G.2.1 1, n, .inr (.inl (fun j => lZ (f j))))
abbrev gZ (G : Gt) (n : Nat) (f : Nat → Int) : va_E := .inl (G.2.1 2, n, .inl (fun j => iZ (f j)))
abbrev gQ (G : Gt) (n : Nat) (f : Nat → Option Nat) : va_E := .inl (G.2.1 3, n, .inr (.inr (.inr (.inr f))))
abbrev gty (G : Gt) : List (ClassId × FieldType) := [(G.2.1 0, .int), (G.2.1 1, .long), (G.2.1 2, .boolean), (G.2.1 3, .object "java/lang/Object")]
def HP (G : Gt) (h : hF) (H : Heap) : Prop := ∀ (a : Nat) (e : va_E), h a = some e → va_at G.1 vwCl (a, e) H
theorem HP.one {G : Gt} {h : hF} {H : Heap} (hP : HP G h H) {a : Nat} {e : va_E} (ha : h a = some e) : va_P G.1 vwCl [(a, e)] H := by
  intro k q hq
  match k, hq with
  | 0, hq => cases hq; exact hP _ _ ha
theorem HP.up {G : Gt} {h : hF} {H H1 : Heap} (hP : HP G h H) {a : Nat} {e : va_E} (he : va_at G.1 vwCl (a, e) H1) (oq : ∀ q : Nat, q ≠ a → H1[q]? = H[q]?) : HP G (hup h a e) H1 := by
  intro b e' hb
  by_cases hba : b = a
  · subst hba
    rw [hup_eq] at hb
    cases hb
    exact he
  · rw [hup_ne hba] at hb
    exact (hP _ _ hb).kept (oq b hba)
theorem HP.lt {G : Gt} {h : hF} {H : Heap} (hP : HP G h H) {a : Nat} {e : va_E} (ha : h a = some e) : a < H.size := (hP _ _ ha).lt
theorem HP.new {G : Gt} {h : hF} {H H1 : Heap} (hP : HP G h H) {e : va_E} (he : va_at G.1 vwCl (H.size, e) H1) (oq : ∀ q : Nat, q < H.size → H1[q]? = H[q]?) : HP G (hup h H.size e) H1 := by
  intro b e' hb
  by_cases hba : b = H.size
  · subst hba
    rw [hup_eq] at hb
    cases hb
    exact he
  · rw [hup_ne hba] at hb
    exact (hP _ _ hb).kept (oq b (hP.lt hb))
theorem HP.fresh {G : Gt} {h : hF} {H : Heap} (hP : HP G h H) {a : Nat} (ha : H.size ≤ a) : h a = none := by
  cases hh : h a with
  | none => rfl
  | some e => exact absurd (hP.lt hh) (by omega)
-- words
def lw_g : List Cond := lw_tbl.filter goodWord
theorem lw_g_in {w : Cond} (h : w ∈ lw_tbl) (hg : goodWord w = true) : w ∈ lw_g := List.mem_filter.mpr ⟨h, hg⟩
theorem lw_g_at {w : Cond} (i : Nat) (h : tables_1[i]? = some w) (hg : goodWord w = true) : w ∈ lw_g := lw_g_in (List.mem_append_right _ (List.mem_of_getElem? h)) hg
theorem lw_g_s {w : Cond} (i : Nat) (h : (k2_sels lw_privs)[i]? = some w) (hg : goodWord w = true) : w ∈ lw_g := lw_g_in (List.mem_append_left _ (List.mem_of_getElem? h)) hg
theorem lw_g_good {w : Cond} (h : w ∈ lw_g) : (w.onTables && w.keeps) = true ∨ ∃ ty, w = .arrayClass ty := good_of_word (List.mem_filter.mp h).2
theorem good_g {c : Cond} (hc : c ∈ lw_g) : GoodIn lw_g (c :: lw_g) := by
  intro w hw
  rcases List.mem_cons.mp hw with rfl | hw
  · exact ⟨hc, lw_g_good hc⟩
  · exact ⟨hw, lw_g_good hw⟩
/-- links to private members of a nest mate -/
def nestL : List (String × Nat × MethodName × String) := [("AnswerSums", 18, ⟨"AnswerSums$Phases", "<init>", "()V"⟩, "AnswerSums"), ("AnswerSums", 25, ⟨"AnswerSums$Finding", "<init>", "()V"⟩, "AnswerSums"), ("AnswerSums$Core", 104, ⟨"AnswerSums", "upwards", "(JJ)J"⟩, "AnswerSums"), ("AnswerSums$Part", 31, ⟨"AnswerSums", "upwards", "(JJ)J"⟩, "AnswerSums"), ("AnswerSums$Part", 43, ⟨"AnswerSums", "whole", "(JJ)J"⟩, "AnswerSums"), ("AnswerSums$Phases", 99, ⟨"AnswerSums", "whole", "(JJ)J"⟩, "AnswerSums"), ("AnswerSums$Task", 21, ⟨"AnswerSums$Finding", "<init>", "()V"⟩, "AnswerSums")]
/-- what is known of the machine's tables -/
def KK (G : Gt) (U : State) : Prop := va_K G.1 vwCl (gty G) U ∧ (∀ q ∈ nestL, va_Nw (.methodLinkNest q.1 q.2.1 q.2.2.1 q.2.2.2) U) ∧ va_Nw (.castable "AnswerSums$Task" "AnswerSums$Part") U ∧ (∀ C ∈ (["AnswerSums$Task", "AnswerSums$Part"] : List String), va_Nw (.castable C "java/lang/Object") U) ∧ va_AO "java/lang/Object" U ∧ va_Dc U ∧ ∃ mi, va_Mi "[Ljava/lang/Object;" mi U
theorem KK.warm {G : Gt} {s U : State} (hW : s.WarmedH U.vm) (h : KK G s) : KK G U := by
  obtain ⟨h1, h2, h3, h4, h5, h6, mi, h7⟩ := h
  exact ⟨h1.moved hW.alike, fun q hq => (h2 q hq).warmM hW, h3.warmC hW, fun C hC => (h4 C hC).warmC hW, h5.moved hW.alike, h6.moved hW.alike, mi, h7.moved hW.alike⟩
theorem KK.same {G : Gt} {u U : State} (hv : u.vm = U.vm) (h : KK G u) : KK G U := by
  obtain ⟨h1, h2, h3, h4, h5, h6, mi, h7⟩ := h
  have ha : u.vm.Alike U.vm := by rw [hv]; exact Vm.Alike.refl U.vm
  exact ⟨h1.moved ha, fun q hq => (h2 q hq).same rfl hv, h3.same rfl hv, fun C hC => (h4 C hC).same rfl hv, h5.moved ha, h6.moved ha, mi, h7.moved ha⟩
/-- what is known of the constants' cells: they lie below B -/
def SZ (G : Gt) (B : Nat) (U : State) (H : Heap) : Prop := va_Z "java/util/ArrayList" "DEFAULTCAPACITY_EMPTY_ELEMENTDATA" "[Ljava/lang/Object;" (.ref G.2.2) (fun q => B ≤ q) U H ∧ G.2.2 < B ∧ H[G.2.2]? = some (vp_cell (G.2.1 3) (0, .inr (.inr (.inr (.inr (fun _ => none))))))
theorem SZ.moved {G : Gt} {B : Nat} {u U : State} {H : Heap} (ha : u.vm.Alike U.vm) (h : SZ G B u H) : SZ G B U H := ⟨h.1.moved ha, h.2⟩
theorem SZ.kept {G : Gt} {B : Nat} {U : State} {H H1 : Heap} (h : SZ G B U H) (hk : ∀ q : Nat, q < H.size → ¬ B ≤ q → H1[q]? = H[q]?) : SZ G B U H1 := by
  refine ⟨h.1.kept hk, h.2.1, ?_⟩
  · rw [hk _ (Array.getElem?_eq_some_iff.mp h.2.2).1 (by have := h.2.1; omega)]; exact h.2.2
end
section
/-! THE JUDGEMENT J AND ITS ROWS -/
def lv_get : List (Nat × Value) → Nat → Option Value
  | [], _ => none
  | (j, v) :: t, i => bif Nat.beq j i then some v else lv_get t i
theorem lv_get_mem {v : Value} {i : Nat} : ∀ {L : List (Nat × Value)}, lv_get L i = some v → (i, v) ∈ L
  | [], h => by simp [lv_get] at h
  | (j, w) :: t, h => by
    unfold lv_get at h
    cases hb : Nat.beq j i with
    | true =>
      rw [hb] at h
      have h2 : some w = some v := h
      have : j = i := Nat.eq_of_beq_eq_true hb
      subst this
      rw [Option.some.inj h2]
      exact List.mem_cons_self
    | false =>
      rw [hb] at h
      exact List.mem_cons_of_mem _ (lv_get_mem (L := t) h)
theorem lv_getv {ls : Array Slot} {nL : Nat} {L : List (Nat × Value)} {i : Nat} {v : Value} (h : lv_has ls nL L) (hv : lv_get L i = some v) : ls[i]? = some (.val v) := h.2.2 (i, v) (lv_get_mem hv)
def lvS1 (L : List (Nat × Value)) (i : Nat) (v : Value) : List (Nat × Value) := (i, v) :: L.filter (fun q => !(q.1 == i) && !(q.1 + 1 == i && q.2.category == 2))
def lvS2 (L : List (Nat × Value)) (i : Nat) (v : Value) : List (Nat × Value) := (i, v) :: L.filter (fun q => !(q.1 == i) && (!(q.1 == i + 1) && !(q.1 + 1 == i && q.2.category == 2)))
/-- what may be changed by a method that was entered with the heap h of sz cells -/
def fr (h : hF) (sz : Nat) : Nat → Prop := fun q => h q ≠ none ∨ sz ≤ q
def CX (p : Program) (s : State) (m : MethodId) (args : Array Value) (c : Code) (cc : ByteArray) (nL : Nat) (own : String) (G : Gt) (B : Nat) (A : Nat → Prop) : Prop := p.tables.exec = Jvm.exec ∧ c.code = cc ∧ c.maxLocals = nL ∧ s.vm.findClass own = some m.cls ∧ (∀ w ∈ lw_g, w.before args s = true) ∧ KK G s ∧ SZ G B s s.heap ∧ (∀ q : Nat, s.heap.size ≤ q → A q) ∧ (∀ q : Nat, A q → B ≤ q)
def J (p : Program) (l : Launch) (e : Env) (R : Room) (s : State) (m : MethodId) (args : Array Value) (below : List Frame) (meth : Method) (c : Code) (Q : State → Prop) (nL : Nat) (G : Gt) (A : Nat → Prop) (cells slots pc : Nat) (L : List (Nat × Value)) (st : List Value) (h : hF) : Prop :=
  ∀ (ls : Array Slot) (H : Heap) (locs : List Loc), lv_has ls nL L → HP G h H → (∀ (a : Nat) (x : va_E), h a = some x → A a) → va_S A s.heap H locs → W p l e R s m args below meth c H locs cells slots Q (F0 m pc ls st)
section JR
variable {p : Program} {l : Launch} {e : Env} {R : Room} {s : State} {m : MethodId} {args : Array Value} {below : List Frame} {meth : Method} {c : Code} {Q : State → Prop} {nL : Nat} {G : Gt} {A : Nat → Prop} {cells slots pc : Nat} {L : List (Nat × Value)} {st : List Value} {h : hF} {cc : ByteArray} {own : String} {B : Nat}

theorem j_sub {L' : List (Nat × Value)} (k : J p l e R s m args below meth c Q nL G A cells slots pc L' st h) (hs : ∀ q ∈ L', lv_get L q.1 = some q.2) : J p l e R s m args below meth c Q nL G A cells slots pc L st h := fun ls H locs hl hP hA hS => k ls H locs ⟨hl.1, hl.2.1, fun q hq => lv_getv hl (hs q hq)⟩ hP hA hS
theorem j_wide {k n : Nat} (h1 : cells ≤ k) (h2 : slots ≤ n) (kk : J p l e R s m args below meth c Q nL G A k n pc L st h) : J p l e R s m args below meth c Q nL G A cells slots pc L st h := fun ls H locs hl hP hA hS => W.widen h1 h2 (kk ls H locs hl hP hA hS)
theorem j_wk {A2 : Prop} (k : A2 → J p l e R s m args below meth c Q nL G A cells slots pc L st h) (ha : A2) : J p l e R s m args below meth c Q nL G A cells slots pc L st h := k ha
theorem j_iconst (hX : CX p s m args c cc nL own G B A) {n : Int} (hdg : decode cc pc = .ok (.iconst n, 1)) (k : J p l e R s m args below meth c Q nL G A cells slots (pc + 1) L (.int (iZ n) :: st) h) : J p l e R s m args below meth c Q nL G A cells slots pc L st h := fun ls H locs hl hP hA hS => lv_iconst hX.1 hX.2.1 hdg rfl (k ls H locs hl hP hA hS)
theorem j_bipush (hX : CX p s m args c cc nL own G B A) {n : Int} (hdg : decode cc pc = .ok (.bipush n, 2)) (hn : (Int8.ofInt n).toInt32 = iZ n) (k : J p l e R s m args below meth c Q nL G A cells slots (pc + 2) L (.int (iZ n) :: st) h) : J p l e R s m args below meth c Q nL G A cells slots pc L st h := fun ls H locs hl hP hA hS => lv_bipush hX.1 hX.2.1 hdg hn (k ls H locs hl hP hA hS)
theorem j_sipush (hX : CX p s m args c cc nL own G B A) {n : Int} (hdg : decode cc pc = .ok (.sipush n, 3)) (hn : (Int16.ofInt n).toInt32 = iZ n) (k : J p l e R s m args below meth c Q nL G A cells slots (pc + 3) L (.int (iZ n) :: st) h) : J p l e R s m args below meth c Q nL G A cells slots pc L st h := fun ls H locs hl hP hA hS => lv_sipush hX.1 hX.2.1 hdg hn (k ls H locs hl hP hA hS)
theorem j_lconst0 (hX : CX p s m args c cc nL own G B A) (hdg : decode cc pc = .ok (.lconst 0, 1)) (k : J p l e R s m args below meth c Q nL G A cells slots (pc + 1) L (.long (lZ 0) :: st) h) : J p l e R s m args below meth c Q nL G A cells slots pc L st h := fun ls H locs hl hP hA hS => lv_lconst hX.1 hX.2.1 hdg rfl (k ls H locs hl hP hA hS)
theorem j_lconst1 (hX : CX p s m args c cc nL own G B A) (hdg : decode cc pc = .ok (.lconst 1, 1)) (k : J p l e R s m args below meth c Q nL G A cells slots (pc + 1) L (.long (lZ 1) :: st) h) : J p l e R s m args below meth c Q nL G A cells slots pc L st h := fun ls H locs hl hP hA hS => lv_lconst hX.1 hX.2.1 hdg rfl (k ls H locs hl hP hA hS)
theorem j_null (hX : CX p s m args c cc nL own G B A) (hdg : decode cc pc = .ok (.aconst_null, 1)) (k : J p l e R s m args below meth c Q nL G A cells slots (pc + 1) L (.null :: st) h) : J p l e R s m args below meth c Q nL G A cells slots pc L st h := fun ls H locs hl hP hA hS => lv_null hX.1 hX.2.1 hdg (k ls H locs hl hP hA hS)
theorem j_ldc (hX : CX p s m args c cc nL own G B A) {i : Nat} {v : Int32} {z : Int} (hc : Cond.constant own i v ∈ lw_g) (hv : v = iZ z) (hdg : decode cc pc = .ok (.ldc i, 2)) (k : J p l e R s m args below meth c Q nL G A cells slots (pc + 2) L (.int (iZ z) :: st) h) : J p l e R s m args below meth c Q nL G A cells slots pc L st h := fun ls H locs hl hP hA hS => lv_ldc hX.1 hX.2.1 hX.2.2.2.1 (hX.2.2.2.2.1 _ hc) hdg (by rw [hv]; exact k ls H locs hl hP hA hS)
theorem j_ldc2 (hX : CX p s m args c cc nL own G B A) {i : Nat} {v : Int64} {z : Int} (hc : Cond.constantLong own i v ∈ lw_g) (hv : v = lZ z) (hdg : decode cc pc = .ok (.ldc2_w i, 3)) (k : J p l e R s m args below meth c Q nL G A cells slots (pc + 3) L (.long (lZ z) :: st) h) : J p l e R s m args below meth c Q nL G A cells slots pc L st h := fun ls H locs hl hP hA hS => lv_ldc2 hX.1 hX.2.1 hX.2.2.2.1 (hX.2.2.2.2.1 _ hc) hdg (by rw [hv]; exact k ls H locs hl hP hA hS)
theorem j_iload (hX : CX p s m args c cc nL own G B A) {i : Nat} {x : Int32} (hdg : decode cc pc = .ok (.iload i, 2)) (hv : lv_get L i = some (.int x)) (k : J p l e R s m args below meth c Q nL G A cells slots (pc + 2) L (.int x :: st) h) : J p l e R s m args below meth c Q nL G A cells slots pc L st h := fun ls H locs hl hP hA hS => lv_iload hX.1 hX.2.1 hdg (lv_getv hl hv) (k ls H locs hl hP hA hS)
theorem j_iload_n (hX : CX p s m args c cc nL own G B A) {i : Fin 4} {x : Int32} (hdg : decode cc pc = .ok (.iload_n i, 1)) (hv : lv_get L i = some (.int x)) (k : J p l e R s m args below meth c Q nL G A cells slots (pc + 1) L (.int x :: st) h) : J p l e R s m args below meth c Q nL G A cells slots pc L st h := fun ls H locs hl hP hA hS => lv_iload_n hX.1 hX.2.1 hdg rfl (lv_getv hl hv) (k ls H locs hl hP hA hS)
theorem j_lload (hX : CX p s m args c cc nL own G B A) {i : Nat} {x : Int64} (hdg : decode cc pc = .ok (.lload i, 2)) (hv : lv_get L i = some (.long x)) (k : J p l e R s m args below meth c Q nL G A cells slots (pc + 2) L (.long x :: st) h) : J p l e R s m args below meth c Q nL G A cells slots pc L st h := fun ls H locs hl hP hA hS => lv_lload hX.1 hX.2.1 hdg (lv_getv hl hv) (k ls H locs hl hP hA hS)
theorem j_lload_n (hX : CX p s m args c cc nL own G B A) {i : Fin 4} {x : Int64} (hdg : decode cc pc = .ok (.lload_n i, 1)) (hv : lv_get L i = some (.long x)) (k : J p l e R s m args below meth c Q nL G A cells slots (pc + 1) L (.long x :: st) h) : J p l e R s m args below meth c Q nL G A cells slots pc L st h := fun ls H locs hl hP hA hS => lv_lload_n hX.1 hX.2.1 hdg rfl (lv_getv hl hv) (k ls H locs hl hP hA hS)
theorem j_aload (hX : CX p s m args c cc nL own G B A) {i : Nat} {x : Nat} (hdg : decode cc pc = .ok (.aload i, 2)) (hv : lv_get L i = some (.ref x)) (k : J p l e R s m args below meth c Q nL G A cells slots (pc + 2) L (.ref x :: st) h) : J p l e R s m args below meth c Q nL G A cells slots pc L st h := fun ls H locs hl hP hA hS => lv_aload hX.1 hX.2.1 hdg (lv_getv hl hv) (k ls H locs hl hP hA hS)
theorem j_aload_n (hX : CX p s m args c cc nL own G B A) {i : Fin 4} {x : Nat} (hdg : decode cc pc = .ok (.aload_n i, 1)) (hv : lv_get L i = some (.ref x)) (k : J p l e R s m args below meth c Q nL G A cells slots (pc + 1) L (.ref x :: st) h) : J p l e R s m args below meth c Q nL G A cells slots pc L st h := fun ls H locs hl hP hA hS => lv_aload_n hX.1 hX.2.1 hdg rfl (lv_getv hl hv) (k ls H locs hl hP hA hS)
theorem j_aloadN (hX : CX p s m args c cc nL own G B A) {i : Nat} (hdg : decode cc pc = .ok (.aload i, 2)) (hv : lv_get L i = some .null) (k : J p l e R s m args below meth c Q nL G A cells slots (pc + 2) L (.null :: st) h) : J p l e R s m args below meth c Q nL G A cells slots pc L st h := fun ls H locs hl hP hA hS => lv_aloadN hX.1 hX.2.1 hdg (lv_getv hl hv) (k ls H locs hl hP hA hS)
theorem j_aload_nN (hX : CX p s m args c cc nL own G B A) {i : Fin 4} (hdg : decode cc pc = .ok (.aload_n i, 1)) (hv : lv_get L i = some .null) (k : J p l e R s m args below meth c Q nL G A cells slots (pc + 1) L (.null :: st) h) : J p l e R s m args below meth c Q nL G A cells slots pc L st h := fun ls H locs hl hP hA hS => lv_aload_nN hX.1 hX.2.1 hdg rfl (lv_getv hl hv) (k ls H locs hl hP hA hS)
theorem j_istore (hX : CX p s m args c cc nL own G B A) {i : Nat} {x : Int32} (hdg : decode cc pc = .ok (.istore i, 2)) (hn : i < nL) (k : J p l e R s m args below meth c Q nL G A cells slots (pc + 2) (lvS1 L i (.int x)) st h) : J p l e R s m args below meth c Q nL G A cells slots pc L (.int x :: st) h := fun ls H locs hl hP hA hS => lv_istore hX.1 hX.2.1 hdg hl hn rfl (fun ls hl => k ls H locs hl hP hA hS)
theorem j_istore_n (hX : CX p s m args c cc nL own G B A) {i : Fin 4} {x : Int32} (hdg : decode cc pc = .ok (.istore_n i, 1)) (hn : (i : Nat) < nL) (k : J p l e R s m args below meth c Q nL G A cells slots (pc + 1) (lvS1 L i (.int x)) st h) : J p l e R s m args below meth c Q nL G A cells slots pc L (.int x :: st) h := fun ls H locs hl hP hA hS => lv_istore_n hX.1 hX.2.1 hdg rfl hl hn rfl (fun ls hl => k ls H locs hl hP hA hS)
theorem j_lstore (hX : CX p s m args c cc nL own G B A) {i : Nat} {x : Int64} (hdg : decode cc pc = .ok (.lstore i, 2)) (hn : i + 1 < nL) (k : J p l e R s m args below meth c Q nL G A cells slots (pc + 2) (lvS2 L i (.long x)) st h) : J p l e R s m args below meth c Q nL G A cells slots pc L (.long x :: st) h := fun ls H locs hl hP hA hS => lv_lstore hX.1 hX.2.1 hdg hl hn rfl (fun ls hl => k ls H locs hl hP hA hS)
theorem j_lstore_n (hX : CX p s m args c cc nL own G B A) {i : Fin 4} {x : Int64} (hdg : decode cc pc = .ok (.lstore_n i, 1)) (hn : (i : Nat) + 1 < nL) (k : J p l e R s m args below meth c Q nL G A cells slots (pc + 1) (lvS2 L i (.long x)) st h) : J p l e R s m args below meth c Q nL G A cells slots pc L (.long x :: st) h := fun ls H locs hl hP hA hS => lv_lstore_n hX.1 hX.2.1 hdg rfl hl hn rfl (fun ls hl => k ls H locs hl hP hA hS)
theorem j_astore (hX : CX p s m args c cc nL own G B A) {i : Nat} {x : Nat} (hdg : decode cc pc = .ok (.astore i, 2)) (hn : i < nL) (k : J p l e R s m args below meth c Q nL G A cells slots (pc + 2) (lvS1 L i (.ref x)) st h) : J p l e R s m args below meth c Q nL G A cells slots pc L (.ref x :: st) h := fun ls H locs hl hP hA hS => lv_astore hX.1 hX.2.1 hdg hl hn rfl (fun ls hl => k ls H locs hl hP hA hS)
theorem j_astore_n (hX : CX p s m args c cc nL own G B A) {i : Fin 4} {x : Nat} (hdg : decode cc pc = .ok (.astore_n i, 1)) (hn : (i : Nat) < nL) (k : J p l e R s m args below meth c Q nL G A cells slots (pc + 1) (lvS1 L i (.ref x)) st h) : J p l e R s m args below meth c Q nL G A cells slots pc L (.ref x :: st) h := fun ls H locs hl hP hA hS => lv_astore_n hX.1 hX.2.1 hdg rfl hl hn rfl (fun ls hl => k ls H locs hl hP hA hS)
theorem j_astoreN (hX : CX p s m args c cc nL own G B A) {i : Nat} (hdg : decode cc pc = .ok (.astore i, 2)) (hn : i < nL) (k : J p l e R s m args below meth c Q nL G A cells slots (pc + 2) (lvS1 L i .null) st h) : J p l e R s m args below meth c Q nL G A cells slots pc L (.null :: st) h := fun ls H locs hl hP hA hS => lv_astoreN hX.1 hX.2.1 hdg hl hn rfl (fun ls hl => k ls H locs hl hP hA hS)
theorem j_astore_nN (hX : CX p s m args c cc nL own G B A) {i : Fin 4} (hdg : decode cc pc = .ok (.astore_n i, 1)) (hn : (i : Nat) < nL) (k : J p l e R s m args below meth c Q nL G A cells slots (pc + 1) (lvS1 L i .null) st h) : J p l e R s m args below meth c Q nL G A cells slots pc L (.null :: st) h := fun ls H locs hl hP hA hS => lv_astore_nN hX.1 hX.2.1 hdg rfl hl hn rfl (fun ls hl => k ls H locs hl hP hA hS)
theorem j_iinc (hX : CX p s m args c cc nL own G B A) {i : Nat} {n x : Int} (hdg : decode cc pc = .ok (.iinc i n, 3)) (hv : lv_get L i = some (.int (iZ x))) (hn : i < nL) (k : J p l e R s m args below meth c Q nL G A cells slots (pc + 3) (lvS1 L i (.int (iZ (x + n)))) st h) : J p l e R s m args below meth c Q nL G A cells slots pc L st h := fun ls H locs hl hP hA hS => by
  obtain ⟨kk, hk⟩ := List.getElem?_of_mem (lv_get_mem hv)
  exact lv_iinc hX.1 hX.2.1 hdg hl hk (by rw [show Int32.ofInt n = iZ n from rfl, iZ_add]) hn rfl (fun ls hl => k ls H locs hl hP hA hS)
theorem j_iadd (hX : CX p s m args c cc nL own G B A) {a b : Int} (hdg : decode cc pc = .ok (.iadd, 1)) (k : J p l e R s m args below meth c Q nL G A cells slots (pc + 1) L (.int (iZ (a + b)) :: st) h) : J p l e R s m args below meth c Q nL G A cells slots pc L (.int (iZ b) :: .int (iZ a) :: st) h := fun ls H locs hl hP hA hS => lv_iadd hX.1 hX.2.1 hdg (by rw [iZ_add]; exact k ls H locs hl hP hA hS)
theorem j_isub (hX : CX p s m args c cc nL own G B A) {a b : Int} (hdg : decode cc pc = .ok (.isub, 1)) (k : J p l e R s m args below meth c Q nL G A cells slots (pc + 1) L (.int (iZ (a - b)) :: st) h) : J p l e R s m args below meth c Q nL G A cells slots pc L (.int (iZ b) :: .int (iZ a) :: st) h := fun ls H locs hl hP hA hS => lv_isub hX.1 hX.2.1 hdg (by rw [iZ_sub]; exact k ls H locs hl hP hA hS)
theorem j_imul (hX : CX p s m args c cc nL own G B A) {a b : Int} (hdg : decode cc pc = .ok (.imul, 1)) (k : J p l e R s m args below meth c Q nL G A cells slots (pc + 1) L (.int (iZ (a * b)) :: st) h) : J p l e R s m args below meth c Q nL G A cells slots pc L (.int (iZ b) :: .int (iZ a) :: st) h := fun ls H locs hl hP hA hS => lv_imul hX.1 hX.2.1 hdg (by rw [iZ_mul]; exact k ls H locs hl hP hA hS)
theorem j_ladd (hX : CX p s m args c cc nL own G B A) {a b : Int} (hdg : decode cc pc = .ok (.ladd, 1)) (k : J p l e R s m args below meth c Q nL G A cells slots (pc + 1) L (.long (lZ (a + b)) :: st) h) : J p l e R s m args below meth c Q nL G A cells slots pc L (.long (lZ b) :: .long (lZ a) :: st) h := fun ls H locs hl hP hA hS => lv_ladd hX.1 hX.2.1 hdg (by rw [lZ_add]; exact k ls H locs hl hP hA hS)
theorem j_lsub (hX : CX p s m args c cc nL own G B A) {a b : Int} (hdg : decode cc pc = .ok (.lsub, 1)) (k : J p l e R s m args below meth c Q nL G A cells slots (pc + 1) L (.long (lZ (a - b)) :: st) h) : J p l e R s m args below meth c Q nL G A cells slots pc L (.long (lZ b) :: .long (lZ a) :: st) h := fun ls H locs hl hP hA hS => lv_lsub hX.1 hX.2.1 hdg (by rw [lZ_sub]; exact k ls H locs hl hP hA hS)
theorem j_lmul (hX : CX p s m args c cc nL own G B A) {a b : Int} (hdg : decode cc pc = .ok (.lmul, 1)) (k : J p l e R s m args below meth c Q nL G A cells slots (pc + 1) L (.long (lZ (a * b)) :: st) h) : J p l e R s m args below meth c Q nL G A cells slots pc L (.long (lZ b) :: .long (lZ a) :: st) h := fun ls H locs hl hP hA hS => lv_lmul hX.1 hX.2.1 hdg (by rw [lZ_mul]; exact k ls H locs hl hP hA hS)
theorem j_ineg (hX : CX p s m args c cc nL own G B A) {a : Int} (hdg : decode cc pc = .ok (.ineg, 1)) (k : J p l e R s m args below meth c Q nL G A cells slots (pc + 1) L (.int (iZ (-a)) :: st) h) : J p l e R s m args below meth c Q nL G A cells slots pc L (.int (iZ a) :: st) h := fun ls H locs hl hP hA hS => lv_ineg hX.1 hX.2.1 hdg (by rw [iZ_neg]; exact k ls H locs hl hP hA hS)
theorem iZ_rem {a b : Int} (ha : 0 ≤ a ∧ a < 2147483648) (hb : 0 < b ∧ b < 2147483648) : iZ a - iZ a / iZ b * iZ b = iZ (a % b) := by
  rw [iZ_div ha hb, iZ_mul, iZ_sub]
  congr 1
  have := Int.emod_def a b
  rw [this, Int.mul_comm]
theorem j_idiv (hX : CX p s m args c cc nL own G B A) {a b : Int} (hdg : decode cc pc = .ok (.idiv, 1)) (ha : 0 ≤ a ∧ a < 2147483648) (hb : 0 < b ∧ b < 2147483648) (k : J p l e R s m args below meth c Q nL G A cells slots (pc + 1) L (.int (iZ (a / b)) :: st) h) : J p l e R s m args below meth c Q nL G A cells slots pc L (.int (iZ b) :: .int (iZ a) :: st) h := fun ls H locs hl hP hA hS => lv_idiv hX.1 hX.2.1 hdg (iZ_ne0 hb) (by rw [iZ_div ha hb]; exact k ls H locs hl hP hA hS)
theorem j_irem (hX : CX p s m args c cc nL own G B A) {a b : Int} (hdg : decode cc pc = .ok (.irem, 1)) (ha : 0 ≤ a ∧ a < 2147483648) (hb : 0 < b ∧ b < 2147483648) (k : J p l e R s m args below meth c Q nL G A cells slots (pc + 1) L (.int (iZ (a % b)) :: st) h) : J p l e R s m args below meth c Q nL G A cells slots pc L (.int (iZ b) :: .int (iZ a) :: st) h := fun ls H locs hl hP hA hS => lv_irem hX.1 hX.2.1 hdg (iZ_ne0 hb) (by rw [iZ_rem ha hb]; exact k ls H locs hl hP hA hS)
theorem lZ_rem {a b : Int} (ha : 0 ≤ a ∧ a < 9223372036854775808) (hb : 0 < b ∧ b < 9223372036854775808) : lZ a - lZ a / lZ b * lZ b = lZ (a % b) := by
  rw [lZ_div ha hb, lZ_mul, lZ_sub]
  congr 1
  have := Int.emod_def a b
  rw [this, Int.mul_comm]
theorem j_ldiv (hX : CX p s m args c cc nL own G B A) {a b : Int} (hdg : decode cc pc = .ok (.ldiv, 1)) (ha : 0 ≤ a ∧ a < 9223372036854775808) (hb : 0 < b ∧ b < 9223372036854775808) (k : J p l e R s m args below meth c Q nL G A cells slots (pc + 1) L (.long (lZ (a / b)) :: st) h) : J p l e R s m args below meth c Q nL G A cells slots pc L (.long (lZ b) :: .long (lZ a) :: st) h := fun ls H locs hl hP hA hS => lv_ldiv hX.1 hX.2.1 hdg (lZ_ne0 hb) (by rw [lZ_div ha hb]; exact k ls H locs hl hP hA hS)
theorem j_lrem (hX : CX p s m args c cc nL own G B A) {a b : Int} (hdg : decode cc pc = .ok (.lrem, 1)) (ha : 0 ≤ a ∧ a < 9223372036854775808) (hb : 0 < b ∧ b < 9223372036854775808) (k : J p l e R s m args below meth c Q nL G A cells slots (pc + 1) L (.long (lZ (a % b)) :: st) h) : J p l e R s m args below meth c Q nL G A cells slots pc L (.long (lZ b) :: .long (lZ a) :: st) h := fun ls H locs hl hP hA hS => lv_lrem hX.1 hX.2.1 hdg (lZ_ne0 hb) (by rw [lZ_rem ha hb]; exact k ls H locs hl hP hA hS)
theorem j_i2l (hX : CX p s m args c cc nL own G B A) {a : Int} (hdg : decode cc pc = .ok (.i2l, 1)) (ha : -2147483648 ≤ a ∧ a < 2147483648) (k : J p l e R s m args below meth c Q nL G A cells slots (pc + 1) L (.long (lZ a) :: st) h) : J p l e R s m args below meth c Q nL G A cells slots pc L (.int (iZ a) :: st) h := fun ls H locs hl hP hA hS => lv_i2l hX.1 hX.2.1 hdg (iZ_toL ha) (k ls H locs hl hP hA hS)
theorem j_l2i (hX : CX p s m args c cc nL own G B A) {a : Int} (hdg : decode cc pc = .ok (.l2i, 1)) (ha : -2147483648 ≤ a ∧ a < 2147483648) (k : J p l e R s m args below meth c Q nL G A cells slots (pc + 1) L (.int (iZ a) :: st) h) : J p l e R s m args below meth c Q nL G A cells slots pc L (.long (lZ a) :: st) h := fun ls H locs hl hP hA hS => lv_l2i hX.1 hX.2.1 hdg (lZ_toI ha) (k ls H locs hl hP hA hS)
theorem j_dup (hX : CX p s m args c cc nL own G B A) {v : Value} (hdg : decode cc pc = .ok (.dup, 1)) (hv : v.category = 1) (k : J p l e R s m args below meth c Q nL G A cells slots (pc + 1) L (v :: v :: st) h) : J p l e R s m args below meth c Q nL G A cells slots pc L (v :: st) h := fun ls H locs hl hP hA hS => lv_dup hX.1 hX.2.1 hdg hv (k ls H locs hl hP hA hS)
theorem j_pop (hX : CX p s m args c cc nL own G B A) {v : Value} (hdg : decode cc pc = .ok (.pop, 1)) (hv : v.category = 1) (k : J p l e R s m args below meth c Q nL G A cells slots (pc + 1) L st h) : J p l e R s m args below meth c Q nL G A cells slots pc L (v :: st) h := fun ls H locs hl hP hA hS => lv_pop hX.1 hX.2.1 hdg hv (k ls H locs hl hP hA hS)
theorem j_dup_x1 (hX : CX p s m args c cc nL own G B A) {v u : Value} (hdg : decode cc pc = .ok (.dup_x1, 1)) (hv : v.category = 1) (hu : u.category = 1) (k : J p l e R s m args below meth c Q nL G A cells slots (pc + 1) L (v :: u :: v :: st) h) : J p l e R s m args below meth c Q nL G A cells slots pc L (v :: u :: st) h := fun ls H locs hl hP hA hS => lv_dup_x1 hX.1 hX.2.1 hdg hv hu (k ls H locs hl hP hA hS)
theorem j_dup2 (hX : CX p s m args c cc nL own G B A) {v u : Value} (hdg : decode cc pc = .ok (.dup2, 1)) (hv : v.category = 1) (hu : u.category = 1) (k : J p l e R s m args below meth c Q nL G A cells slots (pc + 1) L (v :: u :: v :: u :: st) h) : J p l e R s m args below meth c Q nL G A cells slots pc L (v :: u :: st) h := fun ls H locs hl hP hA hS => lv_dup2_11 hX.1 hX.2.1 hdg hv hu (k ls H locs hl hP hA hS)
theorem j_goto (hX : CX p s m args c cc nL own G B A) {off : Int} (tgt : Nat) (hdg : decode cc pc = .ok (.goto off, 3)) (ht : (pc : Int) + off = (tgt : Int)) (k : J p l e R s m args below meth c Q nL G A cells slots tgt L st h) : J p l e R s m args below meth c Q nL G A cells slots pc L st h := fun ls H locs hl hP hA hS => lv_goto hX.1 hX.2.1 hdg ht (k ls H locs hl hP hA hS)
theorem j_icmp_eq (hX : CX p s m args c cc nL own G B A) {a b off : Int} (tgt : Nat) (hdg : decode cc pc = .ok (.if_icmp .eq off, 3)) (ht : (pc : Int) + off = (tgt : Int)) (ha : -2147483648 ≤ a ∧ a < 2147483648) (hb : -2147483648 ≤ b ∧ b < 2147483648) (kt : a = b → J p l e R s m args below meth c Q nL G A cells slots tgt L st h) (kf : a ≠ b → J p l e R s m args below meth c Q nL G A cells slots (pc + 3) L st h) : J p l e R s m args below meth c Q nL G A cells slots pc L (.int (iZ b) :: .int (iZ a) :: st) h := fun ls H locs hl hP hA hS => lv_icmp_eq hX.1 hX.2.1 hdg ht (fun q => kt ((iZ_inj ha hb).mp q) ls H locs hl hP hA hS) (fun q => kf (fun z => q ((iZ_inj ha hb).mpr z)) ls H locs hl hP hA hS)
theorem j_if_eq (hX : CX p s m args c cc nL own G B A) {a off : Int} (tgt : Nat) (hdg : decode cc pc = .ok (.ifCond .eq off, 3)) (ht : (pc : Int) + off = (tgt : Int)) (ha : -2147483648 ≤ a ∧ a < 2147483648) (kt : a = 0 → J p l e R s m args below meth c Q nL G A cells slots tgt L st h) (kf : a ≠ 0 → J p l e R s m args below meth c Q nL G A cells slots (pc + 3) L st h) : J p l e R s m args below meth c Q nL G A cells slots pc L (.int (iZ a) :: st) h := fun ls H locs hl hP hA hS => lv_if_eq hX.1 hX.2.1 hdg ht (fun q => kt ((iZ_inj ha (by omega : (-2147483648 : Int) ≤ 0 ∧ (0 : Int) < 2147483648)).mp q) ls H locs hl hP hA hS) (fun q => kf (fun z => q ((iZ_inj ha (by omega : (-2147483648 : Int) ≤ 0 ∧ (0 : Int) < 2147483648)).mpr z)) ls H locs hl hP hA hS)
theorem j_icmp_ne (hX : CX p s m args c cc nL own G B A) {a b off : Int} (tgt : Nat) (hdg : decode cc pc = .ok (.if_icmp .ne off, 3)) (ht : (pc : Int) + off = (tgt : Int)) (ha : -2147483648 ≤ a ∧ a < 2147483648) (hb : -2147483648 ≤ b ∧ b < 2147483648) (kt : a ≠ b → J p l e R s m args below meth c Q nL G A cells slots tgt L st h) (kf : a = b → J p l e R s m args below meth c Q nL G A cells slots (pc + 3) L st h) : J p l e R s m args below meth c Q nL G A cells slots pc L (.int (iZ b) :: .int (iZ a) :: st) h := fun ls H locs hl hP hA hS => lv_icmp_ne hX.1 hX.2.1 hdg ht (fun q => kt (fun z => q ((iZ_inj ha hb).mpr z)) ls H locs hl hP hA hS) (fun q => kf ((iZ_inj ha hb).mp q) ls H locs hl hP hA hS)
theorem j_if_ne (hX : CX p s m args c cc nL own G B A) {a off : Int} (tgt : Nat) (hdg : decode cc pc = .ok (.ifCond .ne off, 3)) (ht : (pc : Int) + off = (tgt : Int)) (ha : -2147483648 ≤ a ∧ a < 2147483648) (kt : a ≠ 0 → J p l e R s m args below meth c Q nL G A cells slots tgt L st h) (kf : a = 0 → J p l e R s m args below meth c Q nL G A cells slots (pc + 3) L st h) : J p l e R s m args below meth c Q nL G A cells slots pc L (.int (iZ a) :: st) h := fun ls H locs hl hP hA hS => lv_if_ne hX.1 hX.2.1 hdg ht (fun q => kt (fun z => q ((iZ_inj ha (by omega : (-2147483648 : Int) ≤ 0 ∧ (0 : Int) < 2147483648)).mpr z)) ls H locs hl hP hA hS) (fun q => kf ((iZ_inj ha (by omega : (-2147483648 : Int) ≤ 0 ∧ (0 : Int) < 2147483648)).mp q) ls H locs hl hP hA hS)
theorem j_icmp_lt (hX : CX p s m args c cc nL own G B A) {a b off : Int} (tgt : Nat) (hdg : decode cc pc = .ok (.if_icmp .lt off, 3)) (ht : (pc : Int) + off = (tgt : Int)) (ha : -2147483648 ≤ a ∧ a < 2147483648) (hb : -2147483648 ≤ b ∧ b < 2147483648) (kt : a < b → J p l e R s m args below meth c Q nL G A cells slots tgt L st h) (kf : b ≤ a → J p l e R s m args below meth c Q nL G A cells slots (pc + 3) L st h) : J p l e R s m args below meth c Q nL G A cells slots pc L (.int (iZ b) :: .int (iZ a) :: st) h := fun ls H locs hl hP hA hS => lv_icmp_lt hX.1 hX.2.1 hdg ht (fun q => kt ((iZ_lt ha hb).mp q) ls H locs hl hP hA hS) (fun q => kf (Int.not_lt.mp (fun z => q ((iZ_lt ha hb).mpr z))) ls H locs hl hP hA hS)
theorem j_if_lt (hX : CX p s m args c cc nL own G B A) {a off : Int} (tgt : Nat) (hdg : decode cc pc = .ok (.ifCond .lt off, 3)) (ht : (pc : Int) + off = (tgt : Int)) (ha : -2147483648 ≤ a ∧ a < 2147483648) (kt : a < 0 → J p l e R s m args below meth c Q nL G A cells slots tgt L st h) (kf : 0 ≤ a → J p l e R s m args below meth c Q nL G A cells slots (pc + 3) L st h) : J p l e R s m args below meth c Q nL G A cells slots pc L (.int (iZ a) :: st) h := fun ls H locs hl hP hA hS => lv_if_lt hX.1 hX.2.1 hdg ht (fun q => kt ((iZ_lt ha (by omega : (-2147483648 : Int) ≤ 0 ∧ (0 : Int) < 2147483648)).mp q) ls H locs hl hP hA hS) (fun q => kf (Int.not_lt.mp (fun z => q ((iZ_lt ha (by omega : (-2147483648 : Int) ≤ 0 ∧ (0 : Int) < 2147483648)).mpr z))) ls H locs hl hP hA hS)
theorem j_icmp_ge (hX : CX p s m args c cc nL own G B A) {a b off : Int} (tgt : Nat) (hdg : decode cc pc = .ok (.if_icmp .ge off, 3)) (ht : (pc : Int) + off = (tgt : Int)) (ha : -2147483648 ≤ a ∧ a < 2147483648) (hb : -2147483648 ≤ b ∧ b < 2147483648) (kt : b ≤ a → J p l e R s m args below meth c Q nL G A cells slots tgt L st h) (kf : a < b → J p l e R s m args below meth c Q nL G A cells slots (pc + 3) L st h) : J p l e R s m args below meth c Q nL G A cells slots pc L (.int (iZ b) :: .int (iZ a) :: st) h := fun ls H locs hl hP hA hS => lv_icmp_ge hX.1 hX.2.1 hdg ht (fun q => kt ((iZ_le hb ha).mp q) ls H locs hl hP hA hS) (fun q => kf (Int.not_le.mp (fun z => q ((iZ_le hb ha).mpr z))) ls H locs hl hP hA hS)
theorem j_if_ge (hX : CX p s m args c cc nL own G B A) {a off : Int} (tgt : Nat) (hdg : decode cc pc = .ok (.ifCond .ge off, 3)) (ht : (pc : Int) + off = (tgt : Int)) (ha : -2147483648 ≤ a ∧ a < 2147483648) (kt : 0 ≤ a → J p l e R s m args below meth c Q nL G A cells slots tgt L st h) (kf : a < 0 → J p l e R s m args below meth c Q nL G A cells slots (pc + 3) L st h) : J p l e R s m args below meth c Q nL G A cells slots pc L (.int (iZ a) :: st) h := fun ls H locs hl hP hA hS => lv_if_ge hX.1 hX.2.1 hdg ht (fun q => kt ((iZ_le (by omega : (-2147483648 : Int) ≤ 0 ∧ (0 : Int) < 2147483648) ha).mp q) ls H locs hl hP hA hS) (fun q => kf (Int.not_le.mp (fun z => q ((iZ_le (by omega : (-2147483648 : Int) ≤ 0 ∧ (0 : Int) < 2147483648) ha).mpr z))) ls H locs hl hP hA hS)
theorem j_icmp_gt (hX : CX p s m args c cc nL own G B A) {a b off : Int} (tgt : Nat) (hdg : decode cc pc = .ok (.if_icmp .gt off, 3)) (ht : (pc : Int) + off = (tgt : Int)) (ha : -2147483648 ≤ a ∧ a < 2147483648) (hb : -2147483648 ≤ b ∧ b < 2147483648) (kt : b < a → J p l e R s m args below meth c Q nL G A cells slots tgt L st h) (kf : a ≤ b → J p l e R s m args below meth c Q nL G A cells slots (pc + 3) L st h) : J p l e R s m args below meth c Q nL G A cells slots pc L (.int (iZ b) :: .int (iZ a) :: st) h := fun ls H locs hl hP hA hS => lv_icmp_gt hX.1 hX.2.1 hdg ht (fun q => kt ((iZ_lt hb ha).mp q) ls H locs hl hP hA hS) (fun q => kf (Int.not_lt.mp (fun z => q ((iZ_lt hb ha).mpr z))) ls H locs hl hP hA hS)
theorem j_if_gt (hX : CX p s m args c cc nL own G B A) {a off : Int} (tgt : Nat) (hdg : decode cc pc = .ok (.ifCond .gt off, 3)) (ht : (pc : Int) + off = (tgt : Int)) (ha : -2147483648 ≤ a ∧ a < 2147483648) (kt : 0 < a → J p l e R s m args below meth c Q nL G A cells slots tgt L st h) (kf : a ≤ 0 → J p l e R s m args below meth c Q nL G A cells slots (pc + 3) L st h) : J p l e R s m args below meth c Q nL G A cells slots pc L (.int (iZ a) :: st) h := fun ls H locs hl hP hA hS => lv_if_gt hX.1 hX.2.1 hdg ht (fun q => kt ((iZ_lt (by omega : (-2147483648 : Int) ≤ 0 ∧ (0 : Int) < 2147483648) ha).mp q) ls H locs hl hP hA hS) (fun q => kf (Int.not_lt.mp (fun z => q ((iZ_lt (by omega : (-2147483648 : Int) ≤ 0 ∧ (0 : Int) < 2147483648) ha).mpr z))) ls H locs hl hP hA hS)
theorem j_icmp_le (hX : CX p s m args c cc nL own G B A) {a b off : Int} (tgt : Nat) (hdg : decode cc pc = .ok (.if_icmp .le off, 3)) (ht : (pc : Int) + off = (tgt : Int)) (ha : -2147483648 ≤ a ∧ a < 2147483648) (hb : -2147483648 ≤ b ∧ b < 2147483648) (kt : a ≤ b → J p l e R s m args below meth c Q nL G A cells slots tgt L st h) (kf : b < a → J p l e R s m args below meth c Q nL G A cells slots (pc + 3) L st h) : J p l e R s m args below meth c Q nL G A cells slots pc L (.int (iZ b) :: .int (iZ a) :: st) h := fun ls H locs hl hP hA hS => lv_icmp_le hX.1 hX.2.1 hdg ht (fun q => kt ((iZ_le ha hb).mp q) ls H locs hl hP hA hS) (fun q => kf (Int.not_le.mp (fun z => q ((iZ_le ha hb).mpr z))) ls H locs hl hP hA hS)
theorem j_if_le (hX : CX p s m args c cc nL own G B A) {a off : Int} (tgt : Nat) (hdg : decode cc pc = .ok (.ifCond .le off, 3)) (ht : (pc : Int) + off = (tgt : Int)) (ha : -2147483648 ≤ a ∧ a < 2147483648) (kt : a ≤ 0 → J p l e R s m args below meth c Q nL G A cells slots tgt L st h) (kf : 0 < a → J p l e R s m args below meth c Q nL G A cells slots (pc + 3) L st h) : J p l e R s m args below meth c Q nL G A cells slots pc L (.int (iZ a) :: st) h := fun ls H locs hl hP hA hS => lv_if_le hX.1 hX.2.1 hdg ht (fun q => kt ((iZ_le ha (by omega : (-2147483648 : Int) ≤ 0 ∧ (0 : Int) < 2147483648)).mp q) ls H locs hl hP hA hS) (fun q => kf (Int.not_le.mp (fun z => q ((iZ_le ha (by omega : (-2147483648 : Int) ≤ 0 ∧ (0 : Int) < 2147483648)).mpr z))) ls H locs hl hP hA hS)
theorem lg_cmpZ {a b : Int} (ha : -9223372036854775808 ≤ a ∧ a < 9223372036854775808) (hb : -9223372036854775808 ≤ b ∧ b < 9223372036854775808) : lg_cmp (lZ a) (lZ b) = iZ (if b < a then 1 else if a = b then 0 else -1) := by
  unfold lg_cmp
  by_cases h1 : b < a
  · rw [if_pos h1, if_pos ((lZ_lt hb ha).mpr h1)]; rfl
  · rw [if_neg h1, if_neg (fun z => h1 ((lZ_lt hb ha).mp z))]
    by_cases h2 : a = b
    · rw [if_pos h2, if_pos (by rw [h2])]; rfl
    · rw [if_neg h2, if_neg (fun z => h2 ((lZ_inj ha hb).mp z))]; rfl
theorem j_lcmp_eq (hX : CX p s m args c cc nL own G B A) {a b off : Int} (tgt : Nat) (hd1 : decode cc pc = .ok (.lcmp, 1)) (hd2 : decode cc (pc + 1) = .ok (.ifCond .eq off, 3)) (ht : ((pc + 1 : Nat) : Int) + off = (tgt : Int)) (ha : -9223372036854775808 ≤ a ∧ a < 9223372036854775808) (hb : -9223372036854775808 ≤ b ∧ b < 9223372036854775808) (kt : a = b → J p l e R s m args below meth c Q nL G A cells slots tgt L st h) (kf : a ≠ b → J p l e R s m args below meth c Q nL G A cells slots (pc + 4) L st h) : J p l e R s m args below meth c Q nL G A cells slots pc L (.long (lZ b) :: .long (lZ a) :: st) h := by
  intro ls H locs hl hP hA hS
  refine W.lcmp hX.1 hX.2.1 hd1 ?_
  rw [lg_cmpZ ha hb]
  have hz : -2147483648 ≤ (if b < a then (1 : Int) else if a = b then 0 else -1) ∧ (if b < a then (1 : Int) else if a = b then 0 else -1) < 2147483648 := by split <;> (try split) <;> omega
  refine j_if_eq hX tgt hd2 ht hz (fun q => kt ?_) (fun q => kf ?_) ls H locs hl hP hA hS
  · (repeat' split at q) <;> omega
  · (repeat' split at q) <;> omega
theorem j_lcmp_ne (hX : CX p s m args c cc nL own G B A) {a b off : Int} (tgt : Nat) (hd1 : decode cc pc = .ok (.lcmp, 1)) (hd2 : decode cc (pc + 1) = .ok (.ifCond .ne off, 3)) (ht : ((pc + 1 : Nat) : Int) + off = (tgt : Int)) (ha : -9223372036854775808 ≤ a ∧ a < 9223372036854775808) (hb : -9223372036854775808 ≤ b ∧ b < 9223372036854775808) (kt : a ≠ b → J p l e R s m args below meth c Q nL G A cells slots tgt L st h) (kf : a = b → J p l e R s m args below meth c Q nL G A cells slots (pc + 4) L st h) : J p l e R s m args below meth c Q nL G A cells slots pc L (.long (lZ b) :: .long (lZ a) :: st) h := by
  intro ls H locs hl hP hA hS
  refine W.lcmp hX.1 hX.2.1 hd1 ?_
  rw [lg_cmpZ ha hb]
  have hz : -2147483648 ≤ (if b < a then (1 : Int) else if a = b then 0 else -1) ∧ (if b < a then (1 : Int) else if a = b then 0 else -1) < 2147483648 := by split <;> (try split) <;> omega
  refine j_if_ne hX tgt hd2 ht hz (fun q => kt ?_) (fun q => kf ?_) ls H locs hl hP hA hS
  · (repeat' split at q) <;> omega
  · (repeat' split at q) <;> omega
theorem j_lcmp_lt (hX : CX p s m args c cc nL own G B A) {a b off : Int} (tgt : Nat) (hd1 : decode cc pc = .ok (.lcmp, 1)) (hd2 : decode cc (pc + 1) = .ok (.ifCond .lt off, 3)) (ht : ((pc + 1 : Nat) : Int) + off = (tgt : Int)) (ha : -9223372036854775808 ≤ a ∧ a < 9223372036854775808) (hb : -9223372036854775808 ≤ b ∧ b < 9223372036854775808) (kt : a < b → J p l e R s m args below meth c Q nL G A cells slots tgt L st h) (kf : b ≤ a → J p l e R s m args below meth c Q nL G A cells slots (pc + 4) L st h) : J p l e R s m args below meth c Q nL G A cells slots pc L (.long (lZ b) :: .long (lZ a) :: st) h := by
  intro ls H locs hl hP hA hS
  refine W.lcmp hX.1 hX.2.1 hd1 ?_
  rw [lg_cmpZ ha hb]
  have hz : -2147483648 ≤ (if b < a then (1 : Int) else if a = b then 0 else -1) ∧ (if b < a then (1 : Int) else if a = b then 0 else -1) < 2147483648 := by split <;> (try split) <;> omega
  refine j_if_lt hX tgt hd2 ht hz (fun q => kt ?_) (fun q => kf ?_) ls H locs hl hP hA hS
  · (repeat' split at q) <;> omega
  · (repeat' split at q) <;> omega
theorem j_lcmp_ge (hX : CX p s m args c cc nL own G B A) {a b off : Int} (tgt : Nat) (hd1 : decode cc pc = .ok (.lcmp, 1)) (hd2 : decode cc (pc + 1) = .ok (.ifCond .ge off, 3)) (ht : ((pc + 1 : Nat) : Int) + off = (tgt : Int)) (ha : -9223372036854775808 ≤ a ∧ a < 9223372036854775808) (hb : -9223372036854775808 ≤ b ∧ b < 9223372036854775808) (kt : b ≤ a → J p l e R s m args below meth c Q nL G A cells slots tgt L st h) (kf : a < b → J p l e R s m args below meth c Q nL G A cells slots (pc + 4) L st h) : J p l e R s m args below meth c Q nL G A cells slots pc L (.long (lZ b) :: .long (lZ a) :: st) h := by
  intro ls H locs hl hP hA hS
  refine W.lcmp hX.1 hX.2.1 hd1 ?_
  rw [lg_cmpZ ha hb]
  have hz : -2147483648 ≤ (if b < a then (1 : Int) else if a = b then 0 else -1) ∧ (if b < a then (1 : Int) else if a = b then 0 else -1) < 2147483648 := by split <;> (try split) <;> omega
  refine j_if_ge hX tgt hd2 ht hz (fun q => kt ?_) (fun q => kf ?_) ls H locs hl hP hA hS
  · (repeat' split at q) <;> omega
  · (repeat' split at q) <;> omega
theorem j_lcmp_gt (hX : CX p s m args c cc nL own G B A) {a b off : Int} (tgt : Nat) (hd1 : decode cc pc = .ok (.lcmp, 1)) (hd2 : decode cc (pc + 1) = .ok (.ifCond .gt off, 3)) (ht : ((pc + 1 : Nat) : Int) + off = (tgt : Int)) (ha : -9223372036854775808 ≤ a ∧ a < 9223372036854775808) (hb : -9223372036854775808 ≤ b ∧ b < 9223372036854775808) (kt : b < a → J p l e R s m args below meth c Q nL G A cells slots tgt L st h) (kf : a ≤ b → J p l e R s m args below meth c Q nL G A cells slots (pc + 4) L st h) : J p l e R s m args below meth c Q nL G A cells slots pc L (.long (lZ b) :: .long (lZ a) :: st) h := by
  intro ls H locs hl hP hA hS
  refine W.lcmp hX.1 hX.2.1 hd1 ?_
  rw [lg_cmpZ ha hb]
  have hz : -2147483648 ≤ (if b < a then (1 : Int) else if a = b then 0 else -1) ∧ (if b < a then (1 : Int) else if a = b then 0 else -1) < 2147483648 := by split <;> (try split) <;> omega
  refine j_if_gt hX tgt hd2 ht hz (fun q => kt ?_) (fun q => kf ?_) ls H locs hl hP hA hS
  · (repeat' split at q) <;> omega
  · (repeat' split at q) <;> omega
theorem j_lcmp_le (hX : CX p s m args c cc nL own G B A) {a b off : Int} (tgt : Nat) (hd1 : decode cc pc = .ok (.lcmp, 1)) (hd2 : decode cc (pc + 1) = .ok (.ifCond .le off, 3)) (ht : ((pc + 1 : Nat) : Int) + off = (tgt : Int)) (ha : -9223372036854775808 ≤ a ∧ a < 9223372036854775808) (hb : -9223372036854775808 ≤ b ∧ b < 9223372036854775808) (kt : a ≤ b → J p l e R s m args below meth c Q nL G A cells slots tgt L st h) (kf : b < a → J p l e R s m args below meth c Q nL G A cells slots (pc + 4) L st h) : J p l e R s m args below meth c Q nL G A cells slots pc L (.long (lZ b) :: .long (lZ a) :: st) h := by
  intro ls H locs hl hP hA hS
  refine W.lcmp hX.1 hX.2.1 hd1 ?_
  rw [lg_cmpZ ha hb]
  have hz : -2147483648 ≤ (if b < a then (1 : Int) else if a = b then 0 else -1) ∧ (if b < a then (1 : Int) else if a = b then 0 else -1) < 2147483648 := by split <;> (try split) <;> omega
  refine j_if_le hX tgt hd2 ht hz (fun q => kt ?_) (fun q => kf ?_) ls H locs hl hP hA hS
  · (repeat' split at q) <;> omega
  · (repeat' split at q) <;> omega
theorem j_ifnonnull (hX : CX p s m args c cc nL own G B A) {x : Nat} {off : Int} (tgt : Nat) (hdg : decode cc pc = .ok (.ifnonnull off, 3)) (ht : (pc : Int) + off = (tgt : Int)) (k : J p l e R s m args below meth c Q nL G A cells slots tgt L st h) : J p l e R s m args below meth c Q nL G A cells slots pc L (.ref x :: st) h := fun ls H locs hl hP hA hS => lv_ifnonnull hX.1 hX.2.1 hdg ht (k ls H locs hl hP hA hS)
theorem j_ifnull (hX : CX p s m args c cc nL own G B A) {x : Nat} {off : Int} (hdg : decode cc pc = .ok (.ifnull off, 3)) (k : J p l e R s m args below meth c Q nL G A cells slots (pc + 3) L st h) : J p l e R s m args below meth c Q nL G A cells slots pc L (.ref x :: st) h := fun ls H locs hl hP hA hS => lv_ifnull hX.1 hX.2.1 hdg (k ls H locs hl hP hA hS)
theorem j_ifnonnullN (hX : CX p s m args c cc nL own G B A) {off : Int} (hdg : decode cc pc = .ok (.ifnonnull off, 3)) (k : J p l e R s m args below meth c Q nL G A cells slots (pc + 3) L st h) : J p l e R s m args below meth c Q nL G A cells slots pc L (.null :: st) h := fun ls H locs hl hP hA hS => lv_ifnonnullN hX.1 hX.2.1 hdg (k ls H locs hl hP hA hS)
theorem j_ifnullN (hX : CX p s m args c cc nL own G B A) {off : Int} (tgt : Nat) (hdg : decode cc pc = .ok (.ifnull off, 3)) (ht : (pc : Int) + off = (tgt : Int)) (k : J p l e R s m args below meth c Q nL G A cells slots tgt L st h) : J p l e R s m args below meth c Q nL G A cells slots pc L (.null :: st) h := fun ls H locs hl hP hA hS => lv_ifnullN hX.1 hX.2.1 hdg ht (k ls H locs hl hP hA hS)
theorem j_castN (hX : CX p s m args c cc nL own G B A) {i : Nat} (hdg : decode cc pc = .ok (.checkcast i, 3)) (k : J p l e R s m args below meth c Q nL G A cells slots (pc + 3) L (.null :: st) h) : J p l e R s m args below meth c Q nL G A cells slots pc L (.null :: st) h := fun ls H locs hl hP hA hS => lv_castN hX.1 hX.2.1 hdg (k ls H locs hl hP hA hS)
end JR
end
section
/-! THE ROWS THAT TOUCH THE HEAP -/
def zup (f : Nat → Int) (k : Nat) (x : Int) : Nat → Int := fun j => if j = k then x else f j
theorem zup_eq (f : Nat → Int) (k : Nat) (x : Int) : zup f k x k = x := by simp [zup]
theorem zup_ne {f : Nat → Int} {k : Nat} {x : Int} {j : Nat} (h : j ≠ k) : zup f k x j = f j := by simp [zup, h]
/-- a field is read at the constant pool's entry i of own, of an object of the kind ci, at its place k -/
def FL (own : String) (i ci k : Nat) : Prop := ∃ (C : String) (T : u_T) (N : Nat) (ref : String), (∀ w ∈ u_ws C T N, w ∈ lw_g) ∧ vwCl[ci]? = some (C, T, N) ∧ k < N ∧ Cond.fieldLink own i ref (T k).2.1 (T k).2.2.1 ∈ lw_g ∧ (ref = (T k).1 ∨ Cond.sameField ref (T k).1 (T k).2.1 (T k).2.2.1 ∈ lw_g)
/-- .. is written: it isn't final, its type is ty -/
def FP (own : String) (i ci k : Nat) (ty : FieldType) : Prop := ∃ (C : String) (T : u_T) (N : Nat) (ref : String) (ty0 : Nat → FieldType), (∀ w ∈ u_ws C T N, w ∈ lw_g) ∧ vwCl[ci]? = some (C, T, N) ∧ k < N ∧ Cond.fieldLink own i ref (T k).2.1 (T k).2.2.1 ∈ lw_g ∧ (ref = (T k).1 ∨ Cond.sameField ref (T k).1 (T k).2.1 (T k).2.2.1 ∈ lw_g) ∧ (∀ k, k < N → parseFieldDescriptor (T k).2.2.1 = some (ty0 k)) ∧ (∀ a, a < N → ∀ b, b < N → a ≠ b → (T a).2.1 ≠ (T b).2.1) ∧ (T k).2.2.2 = false ∧ ty0 k = ty
/-- .. is written by its constructor: it is final -/
def FF (own : String) (i ci k : Nat) (ty : FieldType) : Prop := ∃ (C : String) (T : u_T) (N : Nat) (ref : String) (ty0 : Nat → FieldType), (∀ w ∈ u_ws C T N, w ∈ lw_g) ∧ vwCl[ci]? = some (C, T, N) ∧ k < N ∧ Cond.fieldLink own i ref (T k).2.1 (T k).2.2.1 ∈ lw_g ∧ (ref = (T k).1 ∨ Cond.sameField ref (T k).1 (T k).2.1 (T k).2.2.1 ∈ lw_g) ∧ (∀ k, k < N → parseFieldDescriptor (T k).2.2.1 = some (ty0 k)) ∧ (∀ a, a < N → ∀ b, b < N → a ≠ b → (T a).2.1 ≠ (T b).2.1) ∧ (T k).2.2.2 = true ∧ (T k).1 = own ∧ ty0 k = ty
theorem FL_same {s : State} {args : Array Value} {ref : String} {d n t : String} (hts : ∀ w ∈ lw_g, w.before args s = true) (h : ref = d ∨ Cond.sameField ref d n t ∈ lw_g) : ∀ x, s.fieldFound? d n t = some x → s.fieldFound? ref n t = some x := by
  intro x hx
  rcases h with rfl | h
  · exact hx
  · exact u_same (hts _ h) x hx
section JH
variable {p : Program} {l : Launch} {e : Env} {R : Room} {s : State} {m : MethodId} {args : Array Value} {below : List Frame} {meth : Method} {c : Code} {Q : State → Prop} {nL : Nat} {G : Gt} {A : Nat → Prop} {cells slots pc : Nat} {L : List (Nat × Value)} {st : List Value} {h : hF} {cc : ByteArray} {own : String} {B : Nat}

theorem j_get (hX : CX p s m args c cc nL own G B A) {i ci k a : Nat} (hF : FL own i ci k) (hdg : decode cc pc = .ok (.getfield i, 3)) {fs : List Value} {v : Value} (ha : h a = some (.inr (ci, fs))) (hv : fs[k]? = some v) (kk : J p l e R s m args below meth c Q nL G A cells slots (pc + 3) L (v :: st) h) : J p l e R s m args below meth c Q nL G A cells slots pc L (.ref a :: st) h := by
  obtain ⟨C, T, N, ref, h1, h2, h3, h4, h5⟩ := hF
  intro ls H locs hl hP hA hS
  exact va_get (D := G.1) (tys := gty G) hX.1 hX.2.1 hX.2.2.2.2.1 h1 hX.2.2.2.1 hX.2.2.2.2.2.1.1 (hP.one ha) 0 rfl h2 k h3 (hX.2.2.2.2.1 _ h4) (FL_same hX.2.2.2.2.1 h5) hv hdg (kk ls H locs hl hP hA hS)
theorem j_put (hX : CX p s m args c cc nL own G B A) {i ci k a : Nat} {ty : FieldType} (hF : FP own i ci k ty) (hdg : decode cc pc = .ok (.putfield i, 3)) {fs : List Value} {v : Value} (ha : h a = some (.inr (ci, fs))) (hn : narrow ty v = v) (hfit : fits ty v = true) (hk : k < fs.length) (kk : J p l e R s m args below meth c Q nL G A cells slots (pc + 3) L st (hup h a (.inr (ci, fs.set k v)))) : J p l e R s m args below meth c Q nL G A cells slots pc L (v :: .ref a :: st) h := by
  obtain ⟨C, T, N, ref, ty0, h1, h2, h3, h4, h5, h6, h7, h8, h9⟩ := hF
  intro ls H locs hl hP hA hS
  have hts := hX.2.2.2.2.1
  have hap := va_apart (args := args) (own := own) hts h1 ty0 h6 h7 hX.2.2.2.2.2.1.1 h2
  obtain ⟨r, g1, cell, q1, q2, q3, q4⟩ := hP _ _ ha
  have hr : r = (C, T, N) := Option.some.inj (g1.symm.trans h2)
  subst hr
  obtain ⟨hSl, hfc, kC, hkC, hkind⟩ := hX.2.2.2.2.2.1.1.1 ci _ h2
  obtain ⟨cf, kf, fi, f, hi, hsl⟩ := hSl k h3
  have hlay := hts _ (h1 _ (u_in_lay h3))
  unfold u_lay at hlay
  rw [if_neg (by rw [h8]; decide)] at hlay
  have hst := (u_facts hfc hkC (u_lays hts h1 h3) hi).1
  have hfs := u_store hfc hkC hkind hlay hi (by rw [h6 k h3, h9]) hn hfit
  refine W.putK hX.1 hX.2.1 (f := f) ⟨hX.2.2.2.1, hts _ h4, ⟨_, _, _, FL_same hts h5 _ hi⟩, hst⟩ (by rw [q2]; exact hfs) q1 q3 (by rw [hsl]; exact k2_hasslot (q4 k h3)) rfl rfl hdg fun H' e1 e2 e3 => ?_
  rw [hsl] at e1 ⊢
  refine kk ls H' _ hl (hP.up ⟨_, h2, t_OB.to (V := updV (vp_V fs) k v) ⟨_, e1, q2, q3, t_set q4 hap h3 v⟩ (fun j _ => vp_updV_set hk v j)⟩ e3) (fun b x hb => ?_) (hS.put e2 e3 (hA _ _ ha))
  by_cases hba : b = a
  · rw [hba]; exact hA _ _ ha
  · rw [hup_ne hba] at hb; exact hA _ _ hb
theorem j_putF (hX : CX p s m args c cc nL own G B A) {i ci k a : Nat} {ty : FieldType} (hF : FF own i ci k ty) (hin2 : meth.name = "<init>") (hdg : decode cc pc = .ok (.putfield i, 3)) {fs : List Value} {v : Value} (ha : h a = some (.inr (ci, fs))) (hn : narrow ty v = v) (hfit : fits ty v = true) (hk : k < fs.length) (kk : J p l e R s m args below meth c Q nL G A cells slots (pc + 3) L st (hup h a (.inr (ci, fs.set k v)))) : J p l e R s m args below meth c Q nL G A cells slots pc L (v :: .ref a :: st) h := by
  obtain ⟨C, T, N, ref, ty0, h1, h2, h3, h4, h5, h6, h7, h8, hdecl, h9⟩ := hF
  intro ls H locs hl hP hA hS
  have hts := hX.2.2.2.2.1
  have hap := va_apart (args := args) (own := own) hts h1 ty0 h6 h7 hX.2.2.2.2.2.1.1 h2
  obtain ⟨r, g1, cell, q1, q2, q3, q4⟩ := hP _ _ ha
  have hr : r = (C, T, N) := Option.some.inj (g1.symm.trans h2)
  subst hr
  obtain ⟨hSl, hfc, kC, hkC, hkind⟩ := hX.2.2.2.2.2.1.1.1 ci _ h2
  obtain ⟨cf, kf, fi, f, hi, hsl⟩ := hSl k h3
  have hlay := hts _ (h1 _ (u_in_lay h3))
  unfold u_lay at hlay
  rw [if_pos h8] at hlay
  have hst := (u_facts hfc hkC (u_lays hts h1 h3) hi).1
  have hcf : m.cls = cf := by
    obtain ⟨_, _, c', _, _, _, -, -, hf', -, -, -, hown2, -⟩ := Cond.laysFinal_spec hlay
    have e1 : c' = cf := by have := hi.symm.trans hf'; simp at this; exact this.1.symm
    rw [hdecl] at hown2
    rw [← e1]; exact Option.some.inj (hX.2.2.2.1.symm.trans hown2)
  have hfs := u_fits hfc hkC hkind (Or.inr hlay) hi (by rw [h6 k h3, h9]) hn hfit
  refine W.putFinK hX.1 hX.2.1 hX.2.2.2.1 (hts _ h4) (FL_same hts h5 _ hi) hst hcf hin2 (by rw [q2]; exact hfs) q1 q3 (by rw [hsl]; exact k2_hasslot (q4 k h3)) rfl rfl hdg fun H' e1 e2 e3 => ?_
  rw [hsl] at e1 ⊢
  refine kk ls H' _ hl (hP.up ⟨_, h2, t_OB.to (V := updV (vp_V fs) k v) ⟨_, e1, q2, q3, t_set q4 hap h3 v⟩ (fun j _ => vp_updV_set hk v j)⟩ e3) (fun b x hb => ?_) (hS.put e2 e3 (hA _ _ ha))
  by_cases hba : b = a
  · rw [hba]; exact hA _ _ ha
  · rw [hup_ne hba] at hb; exact hA _ _ hb
theorem j_iald (hX : CX p s m args c cc nL own G B A) {a n : Nat} {f : Nat → Int} {i : Int} (hdg : decode cc pc = .ok (.iaload, 1)) (ha : h a = some (gI G n f)) (hi : 0 ≤ i ∧ i < (n : Int)) (hn : i < 2147483648) (kk : J p l e R s m args below meth c Q nL G A cells slots (pc + 1) L (.int (iZ (f i.toNat)) :: st) h) : J p l e R s m args below meth c Q nL G A cells slots pc L (.int (iZ i) :: .ref a :: st) h := by
  intro ls H locs hl hP hA hS
  refine va_iald (D := G.1) (tys := gty G) hX.1 hX.2.1 hX.2.2.2.2.2.1.1 (hP.one ha) 0 0 rfl rfl (iZ_in hi hn) hdg ?_
  rw [iZ_cl ⟨hi.1, hn⟩]
  exact kk ls H locs hl hP hA hS
theorem j_lald (hX : CX p s m args c cc nL own G B A) {a n : Nat} {f : Nat → Int} {i : Int} (hdg : decode cc pc = .ok (.laload, 1)) (ha : h a = some (gJ G n f)) (hi : 0 ≤ i ∧ i < (n : Int)) (hn : i < 2147483648) (kk : J p l e R s m args below meth c Q nL G A cells slots (pc + 1) L (.long (lZ (f i.toNat)) :: st) h) : J p l e R s m args below meth c Q nL G A cells slots pc L (.int (iZ i) :: .ref a :: st) h := by
  intro ls H locs hl hP hA hS
  refine va_lald (D := G.1) (tys := gty G) hX.1 hX.2.1 hX.2.2.2.2.2.1.1 (hP.one ha) 0 1 rfl rfl (iZ_in hi hn) hdg ?_
  rw [iZ_cl ⟨hi.1, hn⟩]
  exact kk ls H locs hl hP hA hS
theorem j_zald (hX : CX p s m args c cc nL own G B A) {a n : Nat} {f : Nat → Int} {i : Int} (hdg : decode cc pc = .ok (.baload, 1)) (ha : h a = some (gZ G n f)) (hi : 0 ≤ i ∧ i < (n : Int)) (hn : i < 2147483648) (kk : J p l e R s m args below meth c Q nL G A cells slots (pc + 1) L (.int (iZ (f i.toNat)) :: st) h) : J p l e R s m args below meth c Q nL G A cells slots pc L (.int (iZ i) :: .ref a :: st) h := by
  intro ls H locs hl hP hA hS
  refine va_zald (D := G.1) (tys := gty G) hX.1 hX.2.1 hX.2.2.2.2.2.1.1 (hP.one ha) 0 2 rfl rfl (iZ_in hi hn) hdg ?_
  rw [iZ_cl ⟨hi.1, hn⟩]
  exact kk ls H locs hl hP hA hS
theorem j_aald (hX : CX p s m args c cc nL own G B A) {a n : Nat} {f : Nat → Option Nat} {i : Int} (hdg : decode cc pc = .ok (.aaload, 1)) (ha : h a = some (gQ G n f)) (hi : 0 ≤ i ∧ i < (n : Int)) (hn : i < 2147483648) (kk : J p l e R s m args below meth c Q nL G A cells slots (pc + 1) L (va_rf (f i.toNat) :: st) h) : J p l e R s m args below meth c Q nL G A cells slots pc L (.int (iZ i) :: .ref a :: st) h := by
  intro ls H locs hl hP hA hS
  refine va_aldq (D := G.1) (tys := gty G) hX.1 hX.2.1 hX.2.2.2.2.2.1.1 (hP.one ha) 0 3 rfl rfl (iZ_in hi hn) hdg ?_
  rw [iZ_cl ⟨hi.1, hn⟩]
  exact kk ls H locs hl hP hA hS
theorem j_alenI (hX : CX p s m args c cc nL own G B A) {a n : Nat} {f : Nat → Int} (hdg : decode cc pc = .ok (.arraylength, 1)) (ha : h a = some (gI G n f)) (kk : J p l e R s m args below meth c Q nL G A cells slots (pc + 1) L (.int (iZ (n : Int)) :: st) h) : J p l e R s m args below meth c Q nL G A cells slots pc L (.ref a :: st) h := by
  intro ls H locs hl hP hA hS
  exact va_alen (D := G.1) (tys := gty G) hX.1 hX.2.1 hX.2.2.2.2.2.1.1 (hP.one ha) 0 0 rfl rfl (v := iZ (n : Int)) rfl hdg (kk ls H locs hl hP hA hS)
theorem j_alenJ (hX : CX p s m args c cc nL own G B A) {a n : Nat} {f : Nat → Int} (hdg : decode cc pc = .ok (.arraylength, 1)) (ha : h a = some (gJ G n f)) (kk : J p l e R s m args below meth c Q nL G A cells slots (pc + 1) L (.int (iZ (n : Int)) :: st) h) : J p l e R s m args below meth c Q nL G A cells slots pc L (.ref a :: st) h := by
  intro ls H locs hl hP hA hS
  exact va_alen (D := G.1) (tys := gty G) hX.1 hX.2.1 hX.2.2.2.2.2.1.1 (hP.one ha) 0 1 rfl rfl (v := iZ (n : Int)) rfl hdg (kk ls H locs hl hP hA hS)
theorem j_alenZ (hX : CX p s m args c cc nL own G B A) {a n : Nat} {f : Nat → Int} (hdg : decode cc pc = .ok (.arraylength, 1)) (ha : h a = some (gZ G n f)) (kk : J p l e R s m args below meth c Q nL G A cells slots (pc + 1) L (.int (iZ (n : Int)) :: st) h) : J p l e R s m args below meth c Q nL G A cells slots pc L (.ref a :: st) h := by
  intro ls H locs hl hP hA hS
  exact va_alen (D := G.1) (tys := gty G) hX.1 hX.2.1 hX.2.2.2.2.2.1.1 (hP.one ha) 0 2 rfl rfl (v := iZ (n : Int)) rfl hdg (kk ls H locs hl hP hA hS)
theorem j_alenQ (hX : CX p s m args c cc nL own G B A) {a n : Nat} {f : Nat → Option Nat} (hdg : decode cc pc = .ok (.arraylength, 1)) (ha : h a = some (gQ G n f)) (kk : J p l e R s m args below meth c Q nL G A cells slots (pc + 1) L (.int (iZ (n : Int)) :: st) h) : J p l e R s m args below meth c Q nL G A cells slots pc L (.ref a :: st) h := by
  intro ls H locs hl hP hA hS
  exact va_alen (D := G.1) (tys := gty G) hX.1 hX.2.1 hX.2.2.2.2.2.1.1 (hP.one ha) 0 3 rfl rfl (v := iZ (n : Int)) rfl hdg (kk ls H locs hl hP hA hS)
theorem j_iast (hX : CX p s m args c cc nL own G B A) {a n : Nat} {f : Nat → Int} {i x : Int} (hdg : decode cc pc = .ok (.iastore, 1)) (ha : h a = some (gI G n f)) (hi : 0 ≤ i ∧ i < (n : Int)) (hn : i < 2147483648) (kk : J p l e R s m args below meth c Q nL G A cells slots (pc + 1) L st (hup h a (gI G n (zup f i.toNat x)))) : J p l e R s m args below meth c Q nL G A cells slots pc L (.int (iZ x) :: .int (iZ i) :: .ref a :: st) h := by
  intro ls H locs hl hP hA hS
  refine W.iast hX.1 hX.2.1 (hP _ _ ha) ((hX.2.2.2.2.2.1.1.2 0 _ rfl).1 n (fun j => .int (iZ (f j)))) (fun q => by cases q) (by show ¬ (iZ i < 0 ∨ (arrV _ _ _).slots.size ≤ _); rw [arrV_size]; exact iZ_in hi hn) rfl rfl hdg fun H1 e1 e2 e3 => ?_
  refine kk ls H1 _ hl (hP.up ?_ e3) (fun b y hb => ?_) (hS.put e2 e3 (hA _ _ ha))
  · show H1[a]? = some (vp_cell _ _)
    rw [e1, vp_cell_i, vp_cell_i, arrV_store, iZ_cl ⟨hi.1, hn⟩]
    congr 2
    funext q
    by_cases hq : q = i.toNat
    · subst hq; simp [updV, zup]
    · simp [updV, zup, hq]
  · by_cases hba : b = a
    · rw [hba]; exact hA _ _ ha
    · rw [hup_ne hba] at hb; exact hA _ _ hb
theorem j_last (hX : CX p s m args c cc nL own G B A) {a n : Nat} {f : Nat → Int} {i x : Int} (hdg : decode cc pc = .ok (.lastore, 1)) (ha : h a = some (gJ G n f)) (hi : 0 ≤ i ∧ i < (n : Int)) (hn : i < 2147483648) (kk : J p l e R s m args below meth c Q nL G A cells slots (pc + 1) L st (hup h a (gJ G n (zup f i.toNat x)))) : J p l e R s m args below meth c Q nL G A cells slots pc L (.long (lZ x) :: .int (iZ i) :: .ref a :: st) h := by
  intro ls H locs hl hP hA hS
  refine W.last hX.1 hX.2.1 (hP _ _ ha) ((hX.2.2.2.2.2.1.1.2 1 _ rfl).1 n (fun j => .long (lZ (f j)))) (fun q => by cases q) (by show ¬ (iZ i < 0 ∨ (arrV _ _ _).slots.size ≤ _); rw [arrV_size]; exact iZ_in hi hn) rfl rfl hdg fun H1 e1 e2 e3 => ?_
  refine kk ls H1 _ hl (hP.up ?_ e3) (fun b y hb => ?_) (hS.put e2 e3 (hA _ _ ha))
  · show H1[a]? = some (vp_cell _ _)
    rw [e1, vp_cell_l, vp_cell_l, arrV_store, iZ_cl ⟨hi.1, hn⟩]
    congr 2
    funext q
    by_cases hq : q = i.toNat
    · subst hq; simp [updV, zup]
    · simp [updV, zup, hq]
  · by_cases hba : b = a
    · rw [hba]; exact hA _ _ ha
    · rw [hup_ne hba] at hb; exact hA _ _ hb
theorem j_zast (hX : CX p s m args c cc nL own G B A) {a n : Nat} {f : Nat → Int} {i x : Int} (hdg : decode cc pc = .ok (.bastore, 1)) (ha : h a = some (gZ G n f)) (hi : 0 ≤ i ∧ i < (n : Int)) (hn : i < 2147483648) (hx : x = 0 ∨ x = 1) (kk : J p l e R s m args below meth c Q nL G A cells slots (pc + 1) L st (hup h a (gZ G n (zup f i.toNat x)))) : J p l e R s m args below meth c Q nL G A cells slots pc L (.int (iZ x) :: .int (iZ i) :: .ref a :: st) h := by
  intro ls H locs hl hP hA hS
  have hnar : narrow .boolean (.int (iZ x)) = .int (iZ x) := by rcases hx with rfl | rfl <;> rfl
  refine W.zast hX.1 hX.2.1 (hP _ _ ha) ((hX.2.2.2.2.2.1.1.2 2 _ rfl).1 n (fun j => .int (iZ (f j)))) (fun q => by cases q) (by show ¬ (iZ i < 0 ∨ (arrV _ _ _).slots.size ≤ _); rw [arrV_size]; exact iZ_in hi hn) rfl rfl hdg fun H1 e1 e2 e3 => ?_
  refine kk ls H1 _ hl (hP.up ?_ e3) (fun b y hb => ?_) (hS.put e2 e3 (hA _ _ ha))
  · show H1[a]? = some (vp_cell _ _)
    rw [e1, vp_cell_i, vp_cell_i]
    rw [hnar, arrV_store, iZ_cl ⟨hi.1, hn⟩]
    congr 2
    funext q
    by_cases hq : q = i.toNat
    · subst hq; simp [updV, zup]
    · simp [updV, zup, hq]
  · by_cases hba : b = a
    · rw [hba]; exact hA _ _ ha
    · rw [hup_ne hba] at hb; exact hA _ _ hb
/-- a new object of the kind ci: its constant pool entry, its fields at the start -/
def NW (own : String) (i ci N : Nat) (fs : List Value) : Prop := ∃ (C : String) (T : u_T) (ty : Nat → FieldType), (∀ w ∈ u_ws C T N, w ∈ lw_g) ∧ (∀ k, k < N → parseFieldDescriptor (T k).2.2.1 = some (ty k)) ∧ Cond.classLink own i C ∈ lw_g ∧ Cond.instantiable C N ∈ lw_g ∧ Cond.initialized C ∈ lw_g ∧ vwCl[ci]? = some (C, T, N) ∧ ∀ j, j < N → defaultValue (ty j) = vp_V fs j
theorem j_new (hX : CX p s m args c cc nL own G B A) {i ci N : Nat} {fs : List Value} (hN : NW own i ci N fs) (hdg : decode cc pc = .ok (.new i, 3)) (hf : cells + 1 ≤ R.cells ∧ slots + N ≤ R.slots) (kk : ∀ q : Nat, h q = none → J p l e R s m args below meth c Q nL G A (cells + 1) (slots + N) (pc + 3) L (.ref q :: st) (hup h q (.inr (ci, fs)))) : J p l e R s m args below meth c Q nL G A cells slots pc L st h := by
  obtain ⟨C, T, ty, h1, h2, h3, h4, h5, h6, h7⟩ := hN
  intro ls H locs hl hP hA hS
  have hts := hX.2.2.2.2.1
  have hKn := hX.2.2.2.2.2.1.1.1 ci _ h6
  refine W.newcK hX.1 hX.2.1 hX.2.2.2.1 (hts _ h3) (hts _ h4) (hts _ h5) rfl hdg hf.1 hf.2 hKn.2.1 rfl fun H1 kC hkC e1 z1 o1 => ?_
  refine kk H.size (hP.fresh (Nat.le_refl _)) ls H1 locs hl (hP.new ⟨_, h6, (u_born ty hts h1 hKn hkC e1 h2).to h7⟩ o1) (fun b y hb => ?_) ⟨Nat.le_trans hS.1 (by omega), fun x q1 q2 => (o1 x (Nat.lt_of_lt_of_le q1 hS.1)).trans (hS.2.1 x q1 q2), hS.2.2⟩
  by_cases hba : b = H.size
  · rw [hba]; exact hX.2.2.2.2.2.2.2.1 _ hS.1
  · rw [hup_ne hba] at hb; exact hA _ _ hb
theorem j_newaI (hX : CX p s m args c cc nL own G B A) {N : Nat} (harr : Cond.arrayClass .int ∈ lw_g) (hdg : decode cc pc = .ok (.newarray .int, 2)) (hN : N ≤ 1000) (hf : cells + 1 ≤ R.cells ∧ slots + N ≤ R.slots) (kk : ∀ q : Nat, h q = none → J p l e R s m args below meth c Q nL G A (cells + 1) (slots + N) (pc + 2) L (.ref q :: st) (hup h q (gI G N (fun _ => 0)))) : J p l e R s m args below meth c Q nL G A cells slots pc L (.int (iZ (N : Int)) :: st) h := by
  intro ls H locs hl hP hA hS
  have hts := hX.2.2.2.2.1
  have hcl : (iZ (N : Int)).toNatClampNeg = N := by rw [iZ_cl (by omega)]; rfl
  have hn0 : ¬ iZ (N : Int) < 0 := fun z => by
    have h2 := (iZ_lt (a := (N : Int)) (b := 0) (by omega) (by omega)).mp z
    omega
  refine va_newaK hX.1 hX.2.1 (atype := .int) (hts _ harr) rfl hdg rfl hn0 hcl (Nat.le_trans (Nat.mul_le_mul hN (show componentBytes .int ≤ 8 by decide)) (by decide)) hf.1 hf.2 rfl fun H1 cA e1 z1 o1 hAr hNm => ?_
  have hcA : cA = G.2.1 0 := Option.some.inj (hNm.symm.trans (hX.2.2.2.2.2.1.1.2 0 _ rfl).2)
  subst hcA
  refine kk H.size (hP.fresh (Nat.le_refl _)) ls H1 locs hl (hP.new (e := gI G N (fun _ => 0)) ?_ o1) (fun b y hb => ?_) ⟨Nat.le_trans hS.1 (by omega), fun x q1 q2 => (o1 x (Nat.lt_of_lt_of_le q1 hS.1)).trans (hS.2.1 x q1 q2), hS.2.2⟩
  · exact e1
  · by_cases hba : b = H.size
    · rw [hba]; exact hX.2.2.2.2.2.2.2.1 _ hS.1
    · rw [hup_ne hba] at hb; exact hA _ _ hb
theorem j_newaJ (hX : CX p s m args c cc nL own G B A) {N : Nat} (harr : Cond.arrayClass .long ∈ lw_g) (hdg : decode cc pc = .ok (.newarray .long, 2)) (hN : N ≤ 1000) (hf : cells + 1 ≤ R.cells ∧ slots + N ≤ R.slots) (kk : ∀ q : Nat, h q = none → J p l e R s m args below meth c Q nL G A (cells + 1) (slots + N) (pc + 2) L (.ref q :: st) (hup h q (gJ G N (fun _ => 0)))) : J p l e R s m args below meth c Q nL G A cells slots pc L (.int (iZ (N : Int)) :: st) h := by
  intro ls H locs hl hP hA hS
  have hts := hX.2.2.2.2.1
  have hcl : (iZ (N : Int)).toNatClampNeg = N := by rw [iZ_cl (by omega)]; rfl
  have hn0 : ¬ iZ (N : Int) < 0 := fun z => by
    have h2 := (iZ_lt (a := (N : Int)) (b := 0) (by omega) (by omega)).mp z
    omega
  refine va_newaK hX.1 hX.2.1 (atype := .long) (hts _ harr) rfl hdg rfl hn0 hcl (Nat.le_trans (Nat.mul_le_mul hN (show componentBytes .long ≤ 8 by decide)) (by decide)) hf.1 hf.2 rfl fun H1 cA e1 z1 o1 hAr hNm => ?_
  have hcA : cA = G.2.1 1 := Option.some.inj (hNm.symm.trans (hX.2.2.2.2.2.1.1.2 1 _ rfl).2)
  subst hcA
  refine kk H.size (hP.fresh (Nat.le_refl _)) ls H1 locs hl (hP.new (e := gJ G N (fun _ => 0)) ?_ o1) (fun b y hb => ?_) ⟨Nat.le_trans hS.1 (by omega), fun x q1 q2 => (o1 x (Nat.lt_of_lt_of_le q1 hS.1)).trans (hS.2.1 x q1 q2), hS.2.2⟩
  · exact e1
  · by_cases hba : b = H.size
    · rw [hba]; exact hX.2.2.2.2.2.2.2.1 _ hS.1
    · rw [hup_ne hba] at hb; exact hA _ _ hb
theorem j_newaZ (hX : CX p s m args c cc nL own G B A) {N : Nat} (harr : Cond.arrayClass .boolean ∈ lw_g) (hdg : decode cc pc = .ok (.newarray .boolean, 2)) (hN : N ≤ 1000) (hf : cells + 1 ≤ R.cells ∧ slots + N ≤ R.slots) (kk : ∀ q : Nat, h q = none → J p l e R s m args below meth c Q nL G A (cells + 1) (slots + N) (pc + 2) L (.ref q :: st) (hup h q (gZ G N (fun _ => 0)))) : J p l e R s m args below meth c Q nL G A cells slots pc L (.int (iZ (N : Int)) :: st) h := by
  intro ls H locs hl hP hA hS
  have hts := hX.2.2.2.2.1
  have hcl : (iZ (N : Int)).toNatClampNeg = N := by rw [iZ_cl (by omega)]; rfl
  have hn0 : ¬ iZ (N : Int) < 0 := fun z => by
    have h2 := (iZ_lt (a := (N : Int)) (b := 0) (by omega) (by omega)).mp z
    omega
  refine va_newaK hX.1 hX.2.1 (atype := .boolean) (hts _ harr) rfl hdg rfl hn0 hcl (Nat.le_trans (Nat.mul_le_mul hN (show componentBytes .boolean ≤ 8 by decide)) (by decide)) hf.1 hf.2 rfl fun H1 cA e1 z1 o1 hAr hNm => ?_
  have hcA : cA = G.2.1 2 := Option.some.inj (hNm.symm.trans (hX.2.2.2.2.2.1.1.2 2 _ rfl).2)
  subst hcA
  refine kk H.size (hP.fresh (Nat.le_refl _)) ls H1 locs hl (hP.new (e := gZ G N (fun _ => 0)) ?_ o1) (fun b y hb => ?_) ⟨Nat.le_trans hS.1 (by omega), fun x q1 q2 => (o1 x (Nat.lt_of_lt_of_le q1 hS.1)).trans (hS.2.1 x q1 q2), hS.2.2⟩
  · exact e1
  · by_cases hba : b = H.size
    · rw [hba]; exact hX.2.2.2.2.2.2.2.1 _ hS.1
    · rw [hup_ne hba] at hb; exact hA _ _ hb
theorem j_lmax (hX : CX p s m args c cc nL own G B A) {i : Nat} {a b : Int} (hl1 : Cond.methodLink own i Lib.MathLoose.max_long.x ∈ lw_g) (hl2 : Cond.static Lib.MathLoose.max_long.x ∈ lw_g) (hl3 : Cond.initialized "java/lang/Math" ∈ lw_g) (hl4 : Cond.code Lib.MathLoose.max_long.x Lib.MathLoose.max_long.code 4 (some .long) ∈ lw_g) (hdg : decode cc pc = .ok (.invokestatic i, 3)) (ha : -9223372036854775808 ≤ a ∧ a < 9223372036854775808) (hb : -9223372036854775808 ≤ b ∧ b < 9223372036854775808) (hr : 1 ≤ R.frames ∧ (st.map fun v => v.category).sum + 15 ≤ R.locals) (hf : cells ≤ R.cells ∧ slots ≤ R.slots) (kk : J p l e R s m args below meth c Q nL G A cells slots (pc + 3) L (.long (lZ (if b < a then a else b)) :: st) h) : J p l e R s m args below meth c Q nL G A cells slots pc L (.long (lZ b) :: .long (lZ a) :: st) h := by
  intro ls H locs hl hP hA hS
  have hts := hX.2.2.2.2.1
  refine va_mmax_long hX.1 hX.2.1 (by rw [hX.2.2.1]; exact hl.1.symm) hX.2.2.2.1 (hts _ hl1) (hts _ hl2) (hts _ hl3) (hts _ hl4) hr.1 hr.2 hf.1 hf.2 hdg ?_
  have hk := kk ls H locs hl hP hA hS
  by_cases hc : b < a
  · rw [if_pos hc] at hk
    rw [if_pos ((lZ_lt hb ha).mpr hc)]; exact hk
  · rw [if_neg hc] at hk
    rw [if_neg (fun z => hc ((lZ_lt hb ha).mp z))]; exact hk
theorem j_lmin (hX : CX p s m args c cc nL own G B A) {i : Nat} {a b : Int} (hl1 : Cond.methodLink own i Lib.MathLoose.min_long.x ∈ lw_g) (hl2 : Cond.static Lib.MathLoose.min_long.x ∈ lw_g) (hl3 : Cond.initialized "java/lang/Math" ∈ lw_g) (hl4 : Cond.code Lib.MathLoose.min_long.x Lib.MathLoose.min_long.code 4 (some .long) ∈ lw_g) (hdg : decode cc pc = .ok (.invokestatic i, 3)) (ha : -9223372036854775808 ≤ a ∧ a < 9223372036854775808) (hb : -9223372036854775808 ≤ b ∧ b < 9223372036854775808) (hr : 1 ≤ R.frames ∧ (st.map fun v => v.category).sum + 15 ≤ R.locals) (hf : cells ≤ R.cells ∧ slots ≤ R.slots) (kk : J p l e R s m args below meth c Q nL G A cells slots (pc + 3) L (.long (lZ (if b < a then b else a)) :: st) h) : J p l e R s m args below meth c Q nL G A cells slots pc L (.long (lZ b) :: .long (lZ a) :: st) h := by
  intro ls H locs hl hP hA hS
  have hts := hX.2.2.2.2.1
  refine va_mmin_long hX.1 hX.2.1 (by rw [hX.2.2.1]; exact hl.1.symm) hX.2.2.2.1 (hts _ hl1) (hts _ hl2) (hts _ hl3) (hts _ hl4) hr.1 hr.2 hf.1 hf.2 hdg ?_
  have hk := kk ls H locs hl hP hA hS
  by_cases hc : b < a
  · rw [if_pos hc] at hk
    rw [if_pos ((lZ_lt hb ha).mpr hc)]; exact hk
  · rw [if_neg hc] at hk
    rw [if_neg (fun z => hc ((lZ_lt hb ha).mp z))]; exact hk
theorem j_imax (hX : CX p s m args c cc nL own G B A) {i : Nat} {a b : Int} (hl1 : Cond.methodLink own i Lib.Math.max.name ∈ lw_g) (hl2 : Cond.static Lib.Math.max.name ∈ lw_g) (hl3 : Cond.initialized "java/lang/Math" ∈ lw_g) (hl4 : Cond.code Lib.Math.max.name Lib.Math.max.code 2 (some .int) ∈ lw_g) (hdg : decode cc pc = .ok (.invokestatic i, 3)) (ha : -2147483648 ≤ a ∧ a < 2147483648) (hb : -2147483648 ≤ b ∧ b < 2147483648) (hr : 1 ≤ R.frames ∧ (st.map fun v => v.category).sum + 13 ≤ R.locals) (hf : cells ≤ R.cells ∧ slots ≤ R.slots) (kk : J p l e R s m args below meth c Q nL G A cells slots (pc + 3) L (.int (iZ (if a < b then b else a)) :: st) h) : J p l e R s m args below meth c Q nL G A cells slots pc L (.int (iZ b) :: .int (iZ a) :: st) h := by
  intro ls H locs hl hP hA hS
  have hts := hX.2.2.2.2.1
  refine va_mmax hX.1 hX.2.1 (by rw [hX.2.2.1]; exact hl.1.symm) hX.2.2.2.1 (hts _ hl1) (hts _ hl2) (hts _ hl3) (hts _ hl4) hr.1 hr.2 hf.1 hf.2 hdg ?_
  have hk := kk ls H locs hl hP hA hS
  by_cases hc : a < b
  · rw [if_pos hc] at hk
    rw [if_pos ((iZ_lt ha hb).mpr hc)]; exact hk
  · rw [if_neg hc] at hk
    rw [if_neg (fun z => hc ((iZ_lt ha hb).mp z))]; exact hk
theorem j_imin (hX : CX p s m args c cc nL own G B A) {i : Nat} {a b : Int} (hl1 : Cond.methodLink own i Lib.Math.min.name ∈ lw_g) (hl2 : Cond.static Lib.Math.min.name ∈ lw_g) (hl3 : Cond.initialized "java/lang/Math" ∈ lw_g) (hl4 : Cond.code Lib.Math.min.name Lib.Math.min.code 2 (some .int) ∈ lw_g) (hdg : decode cc pc = .ok (.invokestatic i, 3)) (ha : -2147483648 ≤ a ∧ a < 2147483648) (hb : -2147483648 ≤ b ∧ b < 2147483648) (hr : 1 ≤ R.frames ∧ (st.map fun v => v.category).sum + 13 ≤ R.locals) (hf : cells ≤ R.cells ∧ slots ≤ R.slots) (kk : J p l e R s m args below meth c Q nL G A cells slots (pc + 3) L (.int (iZ (if b < a then b else a)) :: st) h) : J p l e R s m args below meth c Q nL G A cells slots pc L (.int (iZ b) :: .int (iZ a) :: st) h := by
  intro ls H locs hl hP hA hS
  have hts := hX.2.2.2.2.1
  refine va_mmin hX.1 hX.2.1 (by rw [hX.2.2.1]; exact hl.1.symm) hX.2.2.2.1 (hts _ hl1) (hts _ hl2) (hts _ hl3) (hts _ hl4) hr.1 hr.2 hf.1 hf.2 hdg ?_
  have hk := kk ls H locs hl hP hA hS
  by_cases hc : b < a
  · rw [if_pos hc] at hk
    rw [if_pos ((iZ_lt hb ha).mpr hc)]; exact hk
  · rw [if_neg hc] at hk
    rw [if_neg (fun z => hc ((iZ_lt hb ha).mp z))]; exact hk
end JH
end
section
/-! CONTRACTS AND CALLS -/
abbrev rmN (d mc ms : Nat) : Room := { frames := d, cells := mc, slots := ms, locals := 60 * d }
def WP (G : Gt) (B : Nat) (h : hF) (sz : Nat) : State → Prop := fun U => U.heap.size = sz ∧ HP G h U.heap ∧ KK G U ∧ SZ G B U U.heap ∧ (∀ (a : Nat) (x : va_E), h a = some x → B ≤ a) ∧ B ≤ sz
def QV (G : Gt) (h : hF) (post : Value → hF → Prop) : Array Value → State → Outcome → State → Prop := fun _ st o t => ∃ (v : Value) (h' : hF), o = .returned (some v) ∧ post v h' ∧ HP G h' t.heap ∧ (∀ (a : Nat) (x : va_E), h' a = some x → fr h st.heap.size a) ∧ va_F (fr h st.heap.size) st t
def QN (G : Gt) (h : hF) (post : hF → Prop) : Array Value → State → Outcome → State → Prop := fun _ st o t => ∃ (h' : hF), o = .returned none ∧ post h' ∧ HP G h' t.heap ∧ (∀ (a : Nat) (x : va_E), h' a = some x → fr h st.heap.size a) ∧ va_F (fr h st.heap.size) st t
/-- what a method answers and does to the heap, from these arguments and this heap -/
def Ct (l : Launch) (G : Gt) (B : Nat) (y : MethodName) (bytes : ByteArray) (maxL : Nat) (ret : Option FieldType) (d mc ms : Nat) (args : List Value) (h : hF) (post : Value → hF → Prop) : Prop := ∀ sz : Nat, Met l y (.code y bytes maxL ret :: lw_g) (rmN d mc ms) (va_Pc args (WP G B h sz)) (QV G h post) mc ms (fr h sz)
def Cv (l : Launch) (G : Gt) (B : Nat) (y : MethodName) (bytes : ByteArray) (maxL : Nat) (d mc ms : Nat) (args : List Value) (h : hF) (post : hF → Prop) : Prop := ∀ sz : Nat, Met l y (.code y bytes maxL none :: lw_g) (rmN d mc ms) (va_Pc args (WP G B h sz)) (QN G h post) mc ms (fr h sz)
theorem WP.blind {G : Gt} {B : Nat} {h : hF} {sz : Nat} {av : List Value} : FrameBlind (va_Pc av (WP G B h sz)) := by
  intro a U g mk ⟨q0, q1, q2, q3, q4, q5⟩
  exact ⟨q0, q1, q2, q3.same rfl, q4.moved (Vm.Alike.refl U.vm), q5⟩
/-- what holds of a method's end -/
def RX (meth : Method) (ret : Option FieldType) (A : Nat → Prop) (h0 : hF) (s : State) : Prop := meth.sig.returnType = ret ∧ meth.locks = false ∧ A = fr h0 s.heap.size
theorem Ct.of {l : Launch} {G : Gt} {B : Nat} {y : MethodName} {cc : ByteArray} {maxL : Nat} {ret : Option FieldType} {d mc ms : Nat} {args : List Value} {h : hF} {post : Value → hF → Prop} (hy : plainName y.cls = true) (hlen : (lg_sl args).length ≤ maxL)
    (body : ∀ (p : Program) (e : Env) (s : State) (m : MethodId) (below : List Frame) (meth : Method) (c : Code) (A : Nat → Prop), CX p s m args.toArray c cc maxL y.cls G B A → RX meth ret A h s → meth.name = y.name →
      J p l e (rmN d mc ms) s m args.toArray below meth c (MQ below (QV G h post) args.toArray s mc ms (fr h s.heap.size)) maxL G A 0 0 0 (lv_args 0 args) [] h) : Ct l G B y cc maxL ret d mc ms args h post := by
  intro sz
  refine Met.ofW (cc := cc) (maxL := maxL) (ret := ret) hy rfl ?_
  intro p e s m args' below meth c s₁ Bd hml hv
  obtain ⟨rfl, hsz, hP, hK, hZ, hB, hBs⟩ := hv
  subst hsz
  have hts0 := atoms_spec (ws := .code y cc maxL ret :: lw_g) Bd.pre
  have hl := lv_entry args (n := maxL) hlen
  rw [lg_entry_eq]
  refine body p e s m below meth c (fr h s.heap.size) ⟨Bd.exec, Bd.bytes, hml, findClass_of_methodNamed Bd.named, fun w hw => hts0 w (List.mem_cons_of_mem _ hw), hK, hZ, fun q hq => Or.inr hq, fun q hq => ?_⟩ ⟨Bd.returns, Bd.notSynchronized, rfl⟩ ((name_of_methodNamed Bd.named Bd.method).1) _ s.heap [] hl hP (fun a x hx => Or.inl (by rw [hx]; exact fun z => by cases z)) va_S.rf
  rcases hq with hq | hq
  · cases hh : h q with
    | none => exact absurd hh hq
    | some x => exact hB _ _ hh
  · exact Nat.le_trans hBs hq
theorem Cv.of {l : Launch} {G : Gt} {B : Nat} {y : MethodName} {cc : ByteArray} {maxL : Nat} {d mc ms : Nat} {args : List Value} {h : hF} {post : hF → Prop} (hy : plainName y.cls = true) (hlen : (lg_sl args).length ≤ maxL)
    (body : ∀ (p : Program) (e : Env) (s : State) (m : MethodId) (below : List Frame) (meth : Method) (c : Code) (A : Nat → Prop), CX p s m args.toArray c cc maxL y.cls G B A → RX meth none A h s → meth.name = y.name →
      J p l e (rmN d mc ms) s m args.toArray below meth c (MQ below (QN G h post) args.toArray s mc ms (fr h s.heap.size)) maxL G A 0 0 0 (lv_args 0 args) [] h) : Cv l G B y cc maxL d mc ms args h post := by
  intro sz
  refine Met.ofW (cc := cc) (maxL := maxL) (ret := none) hy rfl ?_
  intro p e s m args' below meth c s₁ Bd hml hv
  obtain ⟨rfl, hsz, hP, hK, hZ, hB, hBs⟩ := hv
  subst hsz
  have hts0 := atoms_spec (ws := .code y cc maxL none :: lw_g) Bd.pre
  have hl := lv_entry args (n := maxL) hlen
  rw [lg_entry_eq]
  refine body p e s m below meth c (fr h s.heap.size) ⟨Bd.exec, Bd.bytes, hml, findClass_of_methodNamed Bd.named, fun w hw => hts0 w (List.mem_cons_of_mem _ hw), hK, hZ, fun q hq => Or.inr hq, fun q hq => ?_⟩ ⟨Bd.returns, Bd.notSynchronized, rfl⟩ ((name_of_methodNamed Bd.named Bd.method).1) _ s.heap [] hl hP (fun a x hx => Or.inl (by rw [hx]; exact fun z => by cases z)) va_S.rf
  rcases hq with hq | hq
  · cases hh : h q with
    | none => exact absurd hh hq
    | some x => exact hB _ _ hh
  · exact Nat.le_trans hBs hq
section JC
variable {p : Program} {l : Launch} {e : Env} {R : Room} {s : State} {m : MethodId} {args : Array Value} {below : List Frame} {meth : Method} {c : Code} {Q : State → Prop} {nL : Nat} {G : Gt} {A : Nat → Prop} {cells slots pc : Nat} {L : List (Nat × Value)} {st : List Value} {h : hF} {cc : ByteArray} {own : String} {B : Nat}

theorem j_lret (hX : CX p s m args c cc nL own G B A) {h0 : hF} {post : Value → hF → Prop} (hR : RX meth (some .long) A h0 s) (hdg : decode cc pc = .ok (.lreturn, 1)) {z : Int} (hp : post (.long (lZ z)) h) : J p l e R s m args below meth c (MQ below (QV G h0 post) args s cells slots (fr h0 s.heap.size)) nL G A cells slots pc L [.long (lZ z)] h := by
  intro ls H locs hl hP hA hS
  exact W.lret hX.1 hX.2.1 hR.1 (fun t ht hW => ⟨_, h, rfl, hp, by rw [ht]; exact hP, fun a x hx => hR.2.2 ▸ hA a x hx, by have := hS.F ht; rw [hR.2.2] at this; exact this⟩) (by have := hS.2.2; rw [hR.2.2] at this; exact this) hdg hR.2.1
theorem j_iret (hX : CX p s m args c cc nL own G B A) {h0 : hF} {post : Value → hF → Prop} (hR : RX meth (some .int) A h0 s) (hdg : decode cc pc = .ok (.ireturn, 1)) {z : Int} (hp : post (.int (iZ z)) h) : J p l e R s m args below meth c (MQ below (QV G h0 post) args s cells slots (fr h0 s.heap.size)) nL G A cells slots pc L [.int (iZ z)] h := by
  intro ls H locs hl hP hA hS
  exact W.iret hX.1 hX.2.1 hR.1 (fun t ht hW => ⟨_, h, rfl, hp, by rw [ht]; exact hP, fun a x hx => hR.2.2 ▸ hA a x hx, by have := hS.F ht; rw [hR.2.2] at this; exact this⟩) (by have := hS.2.2; rw [hR.2.2] at this; exact this) hdg hR.2.1
theorem j_zret (hX : CX p s m args c cc nL own G B A) {h0 : hF} {post : Value → hF → Prop} (hR : RX meth (some .boolean) A h0 s) (hdg : decode cc pc = .ok (.ireturn, 1)) {z : Int} (hz : z = 0 ∨ z = 1) (hp : post (.int (iZ z)) h) : J p l e R s m args below meth c (MQ below (QV G h0 post) args s cells slots (fr h0 s.heap.size)) nL G A cells slots pc L [.int (iZ z)] h := by
  intro ls H locs hl hP hA hS
  exact W.zret hX.1 hX.2.1 hR.1 (by rcases hz with rfl | rfl <;> rfl) (fun t ht hW => ⟨_, h, rfl, hp, by rw [ht]; exact hP, fun a x hx => hR.2.2 ▸ hA a x hx, by have := hS.F ht; rw [hR.2.2] at this; exact this⟩) (by have := hS.2.2; rw [hR.2.2] at this; exact this) hdg hR.2.1
theorem j_aret (hX : CX p s m args c cc nL own G B A) {h0 : hF} {post : Value → hF → Prop} {rt : FieldType} (hR : RX meth (some rt) A h0 s) (hrt : (∃ n, rt = .object n) ∨ ∃ t, rt = .array t) (hdg : decode cc pc = .ok (.areturn, 1)) {v : Value} (hv : v = .null ∨ ∃ a, v = .ref a) (hp : post v h) : J p l e R s m args below meth c (MQ below (QV G h0 post) args s cells slots (fr h0 s.heap.size)) nL G A cells slots pc L [v] h := by
  intro ls H locs hl hP hA hS
  exact W.aret hX.1 hX.2.1 hR.1 hrt hv (fun t ht hW => ⟨_, h, rfl, hp, by rw [ht]; exact hP, fun a x hx => hR.2.2 ▸ hA a x hx, by have := hS.F ht; rw [hR.2.2] at this; exact this⟩) (by have := hS.2.2; rw [hR.2.2] at this; exact this) hdg hR.2.1
theorem j_vret (hX : CX p s m args c cc nL own G B A) {h0 : hF} {post : hF → Prop} (hR : RX meth none A h0 s) (hdg : decode cc pc = .ok (.return_, 1)) (hp : post h) : J p l e R s m args below meth c (MQ below (QN G h0 post) args s cells slots (fr h0 s.heap.size)) nL G A cells slots pc L [] h := by
  intro ls H locs hl hP hA hS
  exact W.vret hX.1 hX.2.1 hR.1 (fun t ht hW => ⟨h, rfl, hp, by rw [ht]; exact hP, fun a x hx => hR.2.2 ▸ hA a x hx, by have := hS.F ht; rw [hR.2.2] at this; exact this⟩) (by have := hS.2.2; rw [hR.2.2] at this; exact this) hdg hR.2.1
theorem run_v {H : Heap} {locs : List Loc} {ls : Array Slot} {st0 : List Value} {mc ms : Nat} {a : Array Value} {post : Value → hF → Prop} (hr : va_Run p l e R s m args below meth c H locs cells slots mc ms (F0 m pc ls st0) st (QV G h post a) (fr h H.size)) (hX : CX p s m args c cc nL own G B A) (hA : ∀ (a : Nat) (x : va_E), h a = some x → A a) (hS : va_S A s.heap H locs)
    (kk : ∀ (v : Value) (h' : hF) (H1 : Heap) (locs1 : List Loc), post v h' → HP G h' H1 → (∀ (a : Nat) (x : va_E), h' a = some x → A a) → va_S A s.heap H1 locs1 → W p l e R s m args below meth c H1 locs1 (cells + mc) (slots + ms) Q (F0 m (pc + 3) ls (v :: st))) : W p l e R s m args below meth c H locs cells slots Q (F0 m pc ls st0) := by
  have hsub : ∀ q, fr h H.size q → A q := by
    intro q hq
    rcases hq with hq | hq
    · cases hh : h q with
      | none => exact absurd hh hq
      | some x => exact hA _ _ hh
    · exact hX.2.2.2.2.2.2.2.1 _ (Nat.le_trans hS.1 hq)
  intro T hT X
  obtain ⟨v, st₀, t, T', Lc, h0, X', hL, e1, e2, ⟨v', h', hv, hp, hP', hA', hz, hk⟩, stp⟩ := hr T hT X
  cases hv
  rw [h0] at hz hk hA'
  obtain ⟨t2, a1, b1⟩ := kk v' h' T'.heap (locs ++ Lc) hp (by rw [e1]; exact hP') (fun b x hb => hsub _ (hA' b x hb))
    ⟨Nat.le_trans hS.1 (by rw [e1]; exact hz), fun q h1 h2 => by rw [e1, hk q (Nat.lt_of_lt_of_le h1 hS.1) (fun z => h2 (hsub q z))]; exact hS.2.1 q h1 h2, fun q hq => by
      rcases List.mem_append.mp hq with h | h
      · exact hS.2.2 q h
      · exact hsub _ (hL q h)⟩ T' rfl X'
  exact ⟨t2, stp t2 a1, b1⟩
theorem run_n {H : Heap} {locs : List Loc} {ls : Array Slot} {st0 : List Value} {mc ms : Nat} {a : Array Value} {post : hF → Prop} (hr : va_Run p l e R s m args below meth c H locs cells slots mc ms (F0 m pc ls st0) st (QN G h post a) (fr h H.size)) (hX : CX p s m args c cc nL own G B A) (hA : ∀ (a : Nat) (x : va_E), h a = some x → A a) (hS : va_S A s.heap H locs)
    (kk : ∀ (h' : hF) (H1 : Heap) (locs1 : List Loc), post h' → HP G h' H1 → (∀ (a : Nat) (x : va_E), h' a = some x → A a) → va_S A s.heap H1 locs1 → W p l e R s m args below meth c H1 locs1 (cells + mc) (slots + ms) Q (F0 m (pc + 3) ls st)) : W p l e R s m args below meth c H locs cells slots Q (F0 m pc ls st0) := by
  have hsub : ∀ q, fr h H.size q → A q := by
    intro q hq
    rcases hq with hq | hq
    · cases hh : h q with
      | none => exact absurd hh hq
      | some x => exact hA _ _ hh
    · exact hX.2.2.2.2.2.2.2.1 _ (Nat.le_trans hS.1 hq)
  intro T hT X
  obtain ⟨v, st₀, t, T', Lc, h0, X', hL, e1, e2, ⟨h', hv, hp, hP', hA', hz, hk⟩, stp⟩ := hr T hT X
  cases hv
  rw [h0] at hz hk hA'
  obtain ⟨t2, a1, b1⟩ := kk h' T'.heap (locs ++ Lc) hp (by rw [e1]; exact hP') (fun b x hb => hsub _ (hA' b x hb))
    ⟨Nat.le_trans hS.1 (by rw [e1]; exact hz), fun q h1 h2 => by rw [e1, hk q (Nat.lt_of_lt_of_le h1 hS.1) (fun z => h2 (hsub q z))]; exact hS.2.1 q h1 h2, fun q hq => by
      rcases List.mem_append.mp hq with h | h
      · exact hS.2.2 q h
      · exact hsub _ (hL q h)⟩ T' rfl X'
  exact ⟨t2, stp t2 a1, b1⟩
theorem WP.of (hX : CX p s m args c cc nL own G B A) {H : Heap} {locs : List Loc} (hP : HP G h H) (hA : ∀ (a : Nat) (x : va_E), h a = some x → A a) (hS : va_S A s.heap H locs) : ∀ U : State, U.heap = H → s.WarmedH U.vm → WP G B h H.size U := by
  intro U hU hW
  have hB : B ≤ s.heap.size := by
    rcases Nat.lt_or_ge s.heap.size B with q | q
    · exact absurd (hX.2.2.2.2.2.2.2.2 _ (hX.2.2.2.2.2.2.2.1 _ (Nat.le_refl _))) (by omega)
    · exact q
  refine ⟨by rw [hU], by rw [hU]; exact hP, hX.2.2.2.2.2.1.warm hW, ?_, fun a x hx => hX.2.2.2.2.2.2.2.2 _ (hA a x hx), Nat.le_trans hB hS.1⟩
  rw [hU]
  exact (hX.2.2.2.2.2.2.1.kept (fun q h1 h2 => hS.2.1 q h1 (fun z => h2 (hX.2.2.2.2.2.2.2.2 _ z)))).moved hW.alike

/-- the words of a call: virtual, static, constructor, inherited, a nest mate's -/
def CwB (own : String) (i : Nat) (y : MethodName) (n : Nat) (bytes : ByteArray) (maxL : Nat) (ret : Option FieldType) : Prop := Cond.methodLink own i y ∈ lw_g ∧ Cond.initialized y.cls ∈ lw_g ∧ Cond.code y bytes maxL ret ∈ lw_g ∧ (y.cls ≠ "java/lang/invoke/MethodHandle" ∧ y.cls ≠ "java/lang/invoke/VarHandle") ∧ (parseMethodDescriptor y.desc).map (fun d => d.parameters.length) = some n
def CwV (own : String) (i : Nat) (y : MethodName) (C : String) (n : Nat) (bytes : ByteArray) (maxL : Nat) (ret : Option FieldType) : Prop := CwB own i y n bytes maxL ret ∧ Cond.instanceMethod y ∈ lw_g ∧ Cond.selects C y y ∈ lw_g
def CwS (own : String) (i : Nat) (y : MethodName) (n : Nat) (bytes : ByteArray) (maxL : Nat) (ret : Option FieldType) : Prop := CwB own i y n bytes maxL ret ∧ Cond.static y ∈ lw_g
def CwI (own : String) (i : Nat) (y : MethodName) (n : Nat) (bytes : ByteArray) (maxL : Nat) : Prop := CwB own i y n bytes maxL none ∧ Cond.instanceMethod y ∈ lw_g ∧ y.name = "<init>"
/-- x is what the constant pool names; it is y's code that runs, of the class owner above C -/
def CwU (own : String) (i : Nat) (x y : MethodName) (C owner : String) (n : Nat) (bytes : ByteArray) (maxL : Nat) (ret : Option FieldType) : Prop := Cond.methodLink own i x ∈ lw_g ∧ Cond.initialized y.cls ∈ lw_g ∧ Cond.code y bytes maxL ret ∈ lw_g ∧ (owner ≠ "java/lang/invoke/MethodHandle" ∧ owner ≠ "java/lang/invoke/VarHandle") ∧ (parseMethodDescriptor x.desc).map (fun d => d.parameters.length) = some n ∧ Cond.sameMethod x.cls owner x.name x.desc ∈ lw_g ∧ Cond.selects C x y ∈ lw_g ∧ Cond.instanceMethod y ∈ lw_g ∧ y = ⟨owner, x.name, x.desc⟩
def CwN (own : String) (i : Nat) (y : MethodName) (host : String) (n : Nat) (bytes : ByteArray) (maxL : Nat) (ret : Option FieldType) : Prop := (own, i, y, host) ∈ nestL ∧ Cond.initialized y.cls ∈ lw_g ∧ Cond.code y bytes maxL ret ∈ lw_g ∧ (y.cls ≠ "java/lang/invoke/MethodHandle" ∧ y.cls ≠ "java/lang/invoke/VarHandle") ∧ (parseMethodDescriptor y.desc).map (fun d => d.parameters.length) = some n
theorem cwB_use {R : Room} {s : State} {args : Array Value} {own : String} {i n maxL d mc ms : Nat} {y : MethodName} {bytes : ByteArray} {ret : Option FieldType} (hts : ∀ w ∈ lw_g, w.before args s = true) (h : CwB own i y n bytes maxL ret) (hR : d + 1 ≤ R.frames ∧ 8 + (maxL + 11) + 60 * d ≤ R.locals) : CallB R s args own i y bytes maxL ret (.code y bytes maxL ret :: lw_g) (rmN d mc ms) mc ms n :=
  callB_of n hts (good_g h.2.2.1) rfl rfl rfl (hts _ h.2.1) (hts _ h.1) ⟨h.2.2.2.1.1, h.2.2.2.1.2, h.2.2.2.2⟩ hR
theorem j_callV (hX : CX p s m args c cc nL own G B A) {i n maxL d mc ms b ci : Nat} {y : MethodName} {bytes : ByteArray} {C : String} {T : u_T} {N : Nat} {fs As : List Value} {ret : Option FieldType} {post : Value → hF → Prop} (hw : CwV own i y C n bytes maxL ret) (hct : Ct l G B y bytes maxL ret d mc ms (.ref b :: As) h post) (hdg : decode cc pc = .ok (.invokevirtual i, 3)) (hb : h b = some (.inr (ci, fs))) (hc : vwCl[ci]? = some (C, T, N)) (hn : As.length = n) (hr : d + 1 ≤ R.frames ∧ 8 + (maxL + 11) + 60 * d ≤ R.locals) (hf : cells + mc ≤ R.cells ∧ slots + ms ≤ R.slots) (hW : (st.map fun v => v.category).sum ≤ 8) (kk : ∀ (v : Value) (h' : hF), post v h' → J p l e R s m args below meth c Q nL G A (cells + mc) (slots + ms) (pc + 3) L (v :: st) h') {st0 : List Value} (hst : st0 = As.reverse ++ .ref b :: st) : J p l e R s m args below meth c Q nL G A cells slots pc L st0 h := by
  subst hst
  intro ls H locs hl hP hA hS
  have hts := hX.2.2.2.2.1
  refine run_v (va_runV (As := As) ⟨hX.1, hX.2.1, hX.2.2.1, hX.2.2.2.1, hts⟩ (hct H.size) ⟨cwB_use hts hw.1 hr, hts _ hw.2.1, hts _ hw.2.2⟩ ⟨WP.blind, va_recv hX.2.2.2.2.2.1.1 (hP.one hb) hc (q0 := 0) rfl, fun U hU hW => ⟨rfl, WP.of hX hP hA hS U hU hW⟩⟩ rfl hn hl.1 rfl (lv_room hW) hdg hf) hX hA hS (fun v h' H1 locs1 hp hP1 hA1 hS1 => kk v h' hp ls H1 locs1 hl hP1 hA1 hS1)
theorem j_callU (hX : CX p s m args c cc nL own G B A) {i n maxL d mc ms b ci : Nat} {x y : MethodName} {bytes : ByteArray} {C owner : String} {T : u_T} {N : Nat} {fs As : List Value} {ret : Option FieldType} {post : Value → hF → Prop} (hw : CwU own i x y C owner n bytes maxL ret) (hct : Ct l G B y bytes maxL ret d mc ms (.ref b :: As) h post) (hdg : decode cc pc = .ok (.invokevirtual i, 3)) (hb : h b = some (.inr (ci, fs))) (hc : vwCl[ci]? = some (C, T, N)) (hn : As.length = n) (hr : d + 1 ≤ R.frames ∧ 8 + (maxL + 11) + 60 * d ≤ R.locals) (hf : cells + mc ≤ R.cells ∧ slots + ms ≤ R.slots) (hW : (st.map fun v => v.category).sum ≤ 8) (kk : ∀ (v : Value) (h' : hF), post v h' → J p l e R s m args below meth c Q nL G A (cells + mc) (slots + ms) (pc + 3) L (v :: st) h') {st0 : List Value} (hst : st0 = As.reverse ++ .ref b :: st) : J p l e R s m args below meth c Q nL G A cells slots pc L st0 h := by
  subst hst
  intro ls H locs hl hP hA hS
  have hts := hX.2.2.2.2.1
  obtain ⟨w1, w2, w3, w4, w5, w6, w7, w8, w9⟩ := hw
  have hcu : va_CU R s args own C owner i x y bytes maxL ret (.code y bytes maxL ret :: lw_g) (rmN d mc ms) mc ms n := by
    refine ⟨⟨rfl, rfl, hr.1, hr.2, pay_in hts (good_g w3), List.mem_cons_self⟩, hts _ w3, hts _ w2, w4, fun sig hs => ?_, hts _ w1, hts _ w6, by rw [← w9]; exact va_Decl.of (hts _ w8) (hts _ w3), hts _ w7, hts _ w8⟩
    rw [hs] at w5
    exact (Option.some.inj w5).symm
  refine run_v (va_runU (As := As) ⟨hX.1, hX.2.1, hX.2.2.1, hX.2.2.2.1, hts⟩ (hct H.size) hcu ⟨WP.blind, va_recv hX.2.2.2.2.2.1.1 (hP.one hb) hc (q0 := 0) rfl, fun U hU hW => ⟨rfl, WP.of hX hP hA hS U hU hW⟩⟩ rfl hn hl.1 rfl (lv_room hW) hdg hf) hX hA hS (fun v h' H1 locs1 hp hP1 hA1 hS1 => kk v h' hp ls H1 locs1 hl hP1 hA1 hS1)
theorem j_callS (hX : CX p s m args c cc nL own G B A) {i n maxL d mc ms : Nat} {y : MethodName} {bytes : ByteArray} {As : List Value} {ret : Option FieldType} {post : Value → hF → Prop} (hw : CwS own i y n bytes maxL ret) (hct : Ct l G B y bytes maxL ret d mc ms As h post) (hdg : decode cc pc = .ok (.invokestatic i, 3)) (hn : As.length = n) (hr : d + 1 ≤ R.frames ∧ 8 + (maxL + 11) + 60 * d ≤ R.locals) (hf : cells + mc ≤ R.cells ∧ slots + ms ≤ R.slots) (hW : (st.map fun v => v.category).sum ≤ 8) (kk : ∀ (v : Value) (h' : hF), post v h' → J p l e R s m args below meth c Q nL G A (cells + mc) (slots + ms) (pc + 3) L (v :: st) h') {st0 : List Value} (hst : st0 = As.reverse ++ st) : J p l e R s m args below meth c Q nL G A cells slots pc L st0 h := by
  subst hst
  intro ls H locs hl hP hA hS
  have hts := hX.2.2.2.2.1
  refine run_v (va_runS (As := As) ⟨hX.1, hX.2.1, hX.2.2.1, hX.2.2.2.1, hts⟩ (hct H.size) ⟨cwB_use hts hw.1 hr, hts _ hw.2⟩ ⟨WP.blind, fun U hU hW => ⟨rfl, WP.of hX hP hA hS U hU hW⟩⟩ rfl hn hl.1 rfl (lv_room hW) hdg hf) hX hA hS (fun v h' H1 locs1 hp hP1 hA1 hS1 => kk v h' hp ls H1 locs1 hl hP1 hA1 hS1)
theorem j_callSN (hX : CX p s m args c cc nL own G B A) {i n maxL d mc ms : Nat} {y : MethodName} {host : String} {bytes : ByteArray} {As : List Value} {ret : Option FieldType} {post : Value → hF → Prop} (hw : CwN own i y host n bytes maxL ret) (hstat : Cond.static y ∈ lw_g) (hct : Ct l G B y bytes maxL ret d mc ms As h post) (hdg : decode cc pc = .ok (.invokestatic i, 3)) (hn : As.length = n) (hr : d + 1 ≤ R.frames ∧ 8 + (maxL + 11) + 60 * d ≤ R.locals) (hf : cells + mc ≤ R.cells ∧ slots + ms ≤ R.slots) (hW : (st.map fun v => v.category).sum ≤ 8) (kk : ∀ (v : Value) (h' : hF), post v h' → J p l e R s m args below meth c Q nL G A (cells + mc) (slots + ms) (pc + 3) L (v :: st) h') {st0 : List Value} (hst : st0 = As.reverse ++ st) : J p l e R s m args below meth c Q nL G A cells slots pc L st0 h := by
  subst hst
  intro ls H locs hl hP hA hS
  have hts := hX.2.2.2.2.1
  refine run_v (va_runSN (As := As) (host := host) ⟨hX.1, hX.2.1, hX.2.2.1, hX.2.2.2.1, hts⟩ (hct H.size) ⟨va_cnB n hts (good_g hw.2.2.1) rfl rfl rfl (hX.2.2.2.2.2.1.2.1 _ hw.1) (hts _ hw.2.1) ⟨hw.2.2.2.1.1, hw.2.2.2.1.2, hw.2.2.2.2⟩ hr, hts _ hstat, trivial⟩ ⟨WP.blind, fun U hU hW => ⟨rfl, WP.of hX hP hA hS U hU hW⟩⟩ rfl hn hl.1 rfl (lv_room hW) hdg hf) hX hA hS (fun v h' H1 locs1 hp hP1 hA1 hS1 => kk v h' hp ls H1 locs1 hl hP1 hA1 hS1)
theorem j_callVv (hX : CX p s m args c cc nL own G B A) {i n maxL d mc ms b ci : Nat} {y : MethodName} {bytes : ByteArray} {C : String} {T : u_T} {N : Nat} {fs As : List Value} {post : hF → Prop} (hw : CwV own i y C n bytes maxL none) (hct : Cv l G B y bytes maxL  d mc ms (.ref b :: As) h post) (hdg : decode cc pc = .ok (.invokevirtual i, 3)) (hb : h b = some (.inr (ci, fs))) (hc : vwCl[ci]? = some (C, T, N)) (hn : As.length = n) (hr : d + 1 ≤ R.frames ∧ 8 + (maxL + 11) + 60 * d ≤ R.locals) (hf : cells + mc ≤ R.cells ∧ slots + ms ≤ R.slots) (hW : (st.map fun v => v.category).sum ≤ 8) (kk : ∀ (h' : hF), post h' → J p l e R s m args below meth c Q nL G A (cells + mc) (slots + ms) (pc + 3) L st h') {st0 : List Value} (hst : st0 = As.reverse ++ .ref b :: st) : J p l e R s m args below meth c Q nL G A cells slots pc L st0 h := by
  subst hst
  intro ls H locs hl hP hA hS
  have hts := hX.2.2.2.2.1
  refine run_n (va_runV (As := As) ⟨hX.1, hX.2.1, hX.2.2.1, hX.2.2.2.1, hts⟩ (hct H.size) ⟨cwB_use hts hw.1 hr, hts _ hw.2.1, hts _ hw.2.2⟩ ⟨WP.blind, va_recv hX.2.2.2.2.2.1.1 (hP.one hb) hc (q0 := 0) rfl, fun U hU hW => ⟨rfl, WP.of hX hP hA hS U hU hW⟩⟩ rfl hn hl.1 rfl (lv_room hW) hdg hf) hX hA hS (fun h' H1 locs1 hp hP1 hA1 hS1 => kk h' hp ls H1 locs1 hl hP1 hA1 hS1)
theorem j_callUv (hX : CX p s m args c cc nL own G B A) {i n maxL d mc ms b ci : Nat} {x y : MethodName} {bytes : ByteArray} {C owner : String} {T : u_T} {N : Nat} {fs As : List Value} {post : hF → Prop} (hw : CwU own i x y C owner n bytes maxL none) (hct : Cv l G B y bytes maxL  d mc ms (.ref b :: As) h post) (hdg : decode cc pc = .ok (.invokevirtual i, 3)) (hb : h b = some (.inr (ci, fs))) (hc : vwCl[ci]? = some (C, T, N)) (hn : As.length = n) (hr : d + 1 ≤ R.frames ∧ 8 + (maxL + 11) + 60 * d ≤ R.locals) (hf : cells + mc ≤ R.cells ∧ slots + ms ≤ R.slots) (hW : (st.map fun v => v.category).sum ≤ 8) (kk : ∀ (h' : hF), post h' → J p l e R s m args below meth c Q nL G A (cells + mc) (slots + ms) (pc + 3) L st h') {st0 : List Value} (hst : st0 = As.reverse ++ .ref b :: st) : J p l e R s m args below meth c Q nL G A cells slots pc L st0 h := by
  subst hst
  intro ls H locs hl hP hA hS
  have hts := hX.2.2.2.2.1
  obtain ⟨w1, w2, w3, w4, w5, w6, w7, w8, w9⟩ := hw
  have hcu : va_CU R s args own C owner i x y bytes maxL none (.code y bytes maxL none :: lw_g) (rmN d mc ms) mc ms n := by
    refine ⟨⟨rfl, rfl, hr.1, hr.2, pay_in hts (good_g w3), List.mem_cons_self⟩, hts _ w3, hts _ w2, w4, fun sig hs => ?_, hts _ w1, hts _ w6, by rw [← w9]; exact va_Decl.of (hts _ w8) (hts _ w3), hts _ w7, hts _ w8⟩
    rw [hs] at w5
    exact (Option.some.inj w5).symm
  refine run_n (va_runU (As := As) ⟨hX.1, hX.2.1, hX.2.2.1, hX.2.2.2.1, hts⟩ (hct H.size) hcu ⟨WP.blind, va_recv hX.2.2.2.2.2.1.1 (hP.one hb) hc (q0 := 0) rfl, fun U hU hW => ⟨rfl, WP.of hX hP hA hS U hU hW⟩⟩ rfl hn hl.1 rfl (lv_room hW) hdg hf) hX hA hS (fun h' H1 locs1 hp hP1 hA1 hS1 => kk h' hp ls H1 locs1 hl hP1 hA1 hS1)
theorem j_callSv (hX : CX p s m args c cc nL own G B A) {i n maxL d mc ms : Nat} {y : MethodName} {bytes : ByteArray} {As : List Value} {post : hF → Prop} (hw : CwS own i y n bytes maxL none) (hct : Cv l G B y bytes maxL  d mc ms As h post) (hdg : decode cc pc = .ok (.invokestatic i, 3)) (hn : As.length = n) (hr : d + 1 ≤ R.frames ∧ 8 + (maxL + 11) + 60 * d ≤ R.locals) (hf : cells + mc ≤ R.cells ∧ slots + ms ≤ R.slots) (hW : (st.map fun v => v.category).sum ≤ 8) (kk : ∀ (h' : hF), post h' → J p l e R s m args below meth c Q nL G A (cells + mc) (slots + ms) (pc + 3) L st h') {st0 : List Value} (hst : st0 = As.reverse ++ st) : J p l e R s m args below meth c Q nL G A cells slots pc L st0 h := by
  subst hst
  intro ls H locs hl hP hA hS
  have hts := hX.2.2.2.2.1
  refine run_n (va_runS (As := As) ⟨hX.1, hX.2.1, hX.2.2.1, hX.2.2.2.1, hts⟩ (hct H.size) ⟨cwB_use hts hw.1 hr, hts _ hw.2⟩ ⟨WP.blind, fun U hU hW => ⟨rfl, WP.of hX hP hA hS U hU hW⟩⟩ rfl hn hl.1 rfl (lv_room hW) hdg hf) hX hA hS (fun h' H1 locs1 hp hP1 hA1 hS1 => kk h' hp ls H1 locs1 hl hP1 hA1 hS1)
theorem j_callSNv (hX : CX p s m args c cc nL own G B A) {i n maxL d mc ms : Nat} {y : MethodName} {host : String} {bytes : ByteArray} {As : List Value} {post : hF → Prop} (hw : CwN own i y host n bytes maxL none) (hstat : Cond.static y ∈ lw_g) (hct : Cv l G B y bytes maxL  d mc ms As h post) (hdg : decode cc pc = .ok (.invokestatic i, 3)) (hn : As.length = n) (hr : d + 1 ≤ R.frames ∧ 8 + (maxL + 11) + 60 * d ≤ R.locals) (hf : cells + mc ≤ R.cells ∧ slots + ms ≤ R.slots) (hW : (st.map fun v => v.category).sum ≤ 8) (kk : ∀ (h' : hF), post h' → J p l e R s m args below meth c Q nL G A (cells + mc) (slots + ms) (pc + 3) L st h') {st0 : List Value} (hst : st0 = As.reverse ++ st) : J p l e R s m args below meth c Q nL G A cells slots pc L st0 h := by
  subst hst
  intro ls H locs hl hP hA hS
  have hts := hX.2.2.2.2.1
  refine run_n (va_runSN (As := As) (host := host) ⟨hX.1, hX.2.1, hX.2.2.1, hX.2.2.2.1, hts⟩ (hct H.size) ⟨va_cnB n hts (good_g hw.2.2.1) rfl rfl rfl (hX.2.2.2.2.2.1.2.1 _ hw.1) (hts _ hw.2.1) ⟨hw.2.2.2.1.1, hw.2.2.2.1.2, hw.2.2.2.2⟩ hr, hts _ hstat, trivial⟩ ⟨WP.blind, fun U hU hW => ⟨rfl, WP.of hX hP hA hS U hU hW⟩⟩ rfl hn hl.1 rfl (lv_room hW) hdg hf) hX hA hS (fun h' H1 locs1 hp hP1 hA1 hS1 => kk h' hp ls H1 locs1 hl hP1 hA1 hS1)
theorem j_callI (hX : CX p s m args c cc nL own G B A) {i n maxL d mc ms b : Nat} {y : MethodName} {bytes : ByteArray} {As : List Value} {post : hF → Prop} (hw : CwI own i y n bytes maxL) (hct : Cv l G B y bytes maxL d mc ms (.ref b :: As) h post) (hdg : decode cc pc = .ok (.invokespecial i, 3)) (hn : As.length = n) (hr : d + 1 ≤ R.frames ∧ 8 + (maxL + 11) + 60 * d ≤ R.locals) (hf : cells + mc ≤ R.cells ∧ slots + ms ≤ R.slots) (hW : (st.map fun v => v.category).sum ≤ 8) (kk : ∀ (h' : hF), post h' → J p l e R s m args below meth c Q nL G A (cells + mc) (slots + ms) (pc + 3) L st h') {st0 : List Value} (hst : st0 = As.reverse ++ .ref b :: st) : J p l e R s m args below meth c Q nL G A cells slots pc L st0 h := by
  subst hst
  intro ls H locs hl hP hA hS
  have hts := hX.2.2.2.2.1
  refine run_n (va_runI (As := As) ⟨hX.1, hX.2.1, hX.2.2.1, hX.2.2.2.1, hts⟩ (hct H.size) ⟨cwB_use hts hw.1 hr, hw.2.2, hts _ hw.2.1⟩ ⟨WP.blind, fun U hU hW => ⟨rfl, WP.of hX hP hA hS U hU hW⟩⟩ rfl hn hl.1 rfl (lv_room hW) hdg hf) hX hA hS (fun h' H1 locs1 hp hP1 hA1 hS1 => kk h' hp ls H1 locs1 hl hP1 hA1 hS1)
theorem j_callIN (hX : CX p s m args c cc nL own G B A) {i n maxL d mc ms b : Nat} {y : MethodName} {host : String} {bytes : ByteArray} {As : List Value} {post : hF → Prop} (hw : CwN own i y host n bytes maxL none) (hw2 : y.name = "<init>" ∧ Cond.instanceMethod y ∈ lw_g) (hct : Cv l G B y bytes maxL d mc ms (.ref b :: As) h post) (hdg : decode cc pc = .ok (.invokespecial i, 3)) (hn : As.length = n) (hr : d + 1 ≤ R.frames ∧ 8 + (maxL + 11) + 60 * d ≤ R.locals) (hf : cells + mc ≤ R.cells ∧ slots + ms ≤ R.slots) (hW : (st.map fun v => v.category).sum ≤ 8) (kk : ∀ (h' : hF), post h' → J p l e R s m args below meth c Q nL G A (cells + mc) (slots + ms) (pc + 3) L st h') {st0 : List Value} (hst : st0 = As.reverse ++ .ref b :: st) : J p l e R s m args below meth c Q nL G A cells slots pc L st0 h := by
  subst hst
  intro ls H locs hl hP hA hS
  have hts := hX.2.2.2.2.1
  refine run_n (va_runIN (As := As) (host := host) ⟨hX.1, hX.2.1, hX.2.2.1, hX.2.2.2.1, hts⟩ (hct H.size) ⟨va_cnB n hts (good_g hw.2.2.1) rfl rfl rfl (hX.2.2.2.2.2.1.2.1 _ hw.1) (hts _ hw.2.1) ⟨hw.2.2.2.1.1, hw.2.2.2.1.2, hw.2.2.2.2⟩ hr, hw2.1, hts _ hw2.2⟩ ⟨WP.blind, fun U hU hW => ⟨rfl, WP.of hX hP hA hS U hU hW⟩⟩ rfl hn hl.1 rfl (lv_room hW) hdg hf) hX hA hS (fun h' H1 locs1 hp hP1 hA1 hS1 => kk h' hp ls H1 locs1 hl hP1 hA1 hS1)
theorem j_objInit (hX : CX p s m args c cc nL own G B A) {i b : Nat} (hl1 : Cond.methodLink own i Lib.objectInit ∈ lw_g) (hl2 : Cond.instanceMethod Lib.objectInit ∈ lw_g) (hl3 : Cond.code Lib.objectInit ⟨#[0xb1]⟩ 1 none ∈ lw_g) (hdg : decode cc pc = .ok (.invokespecial i, 3)) (hr : 1 ≤ R.frames ∧ 12 ≤ R.locals) (kk : J p l e R s m args below meth c Q nL G A cells slots (pc + 3) L [] h) : J p l e R s m args below meth c Q nL G A cells slots pc L [.ref b] h := by
  intro ls H locs hl hP hA hS
  have hts := hX.2.2.2.2.1
  refine W.objInit hX.1 hX.2.1 hX.2.2.2.1 (hts _ hl1) (hts _ hl2) (hts _ hl3) rfl (by rw [hX.2.2.1]; exact hl.1) rfl hdg hr.1 hr.2 ?_
  exact kk ls H locs hl hP hA hS
theorem j_castS (hX : CX p s m args c cc nL own G B A) {i a ci : Nat} {C : String} {T : u_T} {N : Nat} {fs : List Value} (hlk : Cond.classLink own i C ∈ lw_g) (hdg : decode cc pc = .ok (.checkcast i, 3)) (hb : h a = some (.inr (ci, fs))) (hc : vwCl[ci]? = some (C, T, N)) (kk : J p l e R s m args below meth c Q nL G A cells slots (pc + 3) L (.ref a :: st) h) : J p l e R s m args below meth c Q nL G A cells slots pc L (.ref a :: st) h := by
  intro ls H locs hl hP hA hS
  exact va_castS hX.1 hX.2.1 hX.2.2.2.1 (hX.2.2.2.2.1 _ hlk) (hX.2.2.2.2.2.1.1.1 ci _ hc).2 (va_recv hX.2.2.2.2.2.1.1 (hP.one hb) hc (q0 := 0) rfl) hdg (kk ls H locs hl hP hA hS)
theorem j_castP (hX : CX p s m args c cc nL own G B A) {i a ci : Nat} {T : u_T} {N : Nat} {fs : List Value} (hlk : Cond.classLink own i "AnswerSums$Part" ∈ lw_g) (hdg : decode cc pc = .ok (.checkcast i, 3)) (hb : h a = some (.inr (ci, fs))) (hc : vwCl[ci]? = some ("AnswerSums$Task", T, N)) (kk : J p l e R s m args below meth c Q nL G A cells slots (pc + 3) L (.ref a :: st) h) : J p l e R s m args below meth c Q nL G A cells slots pc L (.ref a :: st) h := by
  intro ls H locs hl hP hA hS
  exact va_castY hX.1 hX.2.1 hX.2.2.2.1 (hX.2.2.2.2.1 _ hlk) hX.2.2.2.2.2.1.2.2.1 (va_recv hX.2.2.2.2.2.1.1 (hP.one hb) hc (q0 := 0) rfl) hdg (kk ls H locs hl hP hA hS)
end JC
theorem lv_all_of {L : List (Nat × Value)} : ∀ {L' : List (Nat × Value)}, (∀ k : Nat, ∀ q, L'[k]? = some q → lv_get L q.1 = some q.2) → ∀ q ∈ L', lv_get L q.1 = some q.2 := fun h q hq => by
  obtain ⟨k, hk⟩ := List.getElem?_of_mem hq
  exact h k q hk
def lv_all (L : List (Nat × Value)) : List (Nat × Value) → Prop
  | [] => True
  | (i, v) :: t => lv_get L i = some v ∧ lv_all L t
theorem lv_all_mem {L : List (Nat × Value)} : ∀ {L' : List (Nat × Value)}, lv_all L L' → ∀ q ∈ L', lv_get L q.1 = some q.2
  | [], _, q, hq => by cases hq
  | (i, v) :: t, h, q, hq => by
    rcases List.mem_cons.mp hq with rfl | hq
    · exact h.1
    · exact lv_all_mem h.2 q hq
section JD
variable {p : Program} {l : Launch} {e : Env} {R : Room} {s : State} {m : MethodId} {args : Array Value} {below : List Frame} {meth : Method} {c : Code} {Q : State → Prop} {nL : Nat} {G : Gt} {A : Nat → Prop} {cells slots pc : Nat} {L : List (Nat × Value)} {st : List Value} {h : hF} {cc : ByteArray} {own : String} {B : Nat}
/-- other locals, fewer or in another order -/
theorem j_at {L' : List (Nat × Value)} (k : J p l e R s m args below meth c Q nL G A cells slots pc L' st h) (hs : lv_all L L') : J p l e R s m args below meth c Q nL G A cells slots pc L st h := j_sub k (lv_all_mem hs)
theorem j_acmp_eq (hX : CX p s m args c cc nL own G B A) {x y : Nat} {off : Int} (tgt : Nat) (hdg : decode cc pc = .ok (.if_acmp .eq off, 3)) (ht : (pc : Int) + off = (tgt : Int)) (kt : x = y → J p l e R s m args below meth c Q nL G A cells slots tgt L st h) (kf : x ≠ y → J p l e R s m args below meth c Q nL G A cells slots (pc + 3) L st h) : J p l e R s m args below meth c Q nL G A cells slots pc L (.ref y :: .ref x :: st) h := fun ls H locs hl hP hA hS => lv_acmp_eq (rx := some x) (ry := some y) hX.1 hX.2.1 hdg ht (fun q => kt (Option.some.inj q) ls H locs hl hP hA hS) (fun q => kf (fun z => q (by rw [z])) ls H locs hl hP hA hS)
theorem j_acmp_ne (hX : CX p s m args c cc nL own G B A) {x y : Nat} {off : Int} (tgt : Nat) (hdg : decode cc pc = .ok (.if_acmp .ne off, 3)) (ht : (pc : Int) + off = (tgt : Int)) (kt : x ≠ y → J p l e R s m args below meth c Q nL G A cells slots tgt L st h) (kf : x = y → J p l e R s m args below meth c Q nL G A cells slots (pc + 3) L st h) : J p l e R s m args below meth c Q nL G A cells slots pc L (.ref y :: .ref x :: st) h := fun ls H locs hl hP hA hS => lv_acmp_ne (rx := some x) (ry := some y) hX.1 hX.2.1 hdg ht (fun q => kt (fun z => q (by rw [z])) ls H locs hl hP hA hS) (fun q => kf (Option.some.inj q) ls H locs hl hP hA hS)
end JD
end
section
/-! THE WORDS, by their places in the tables; and what each instruction asks of them -/
theorem q_0 : Cond.initialized RL ∈ lw_g := lw_g_at 0 (by decide +kernel) (by decide +kernel)
theorem q_1 : Cond.initialized RX5 ∈ lw_g := lw_g_at 1 (by decide +kernel) (by decide +kernel)
theorem q_2 : Cond.initialized RX0 ∈ lw_g := lw_g_at 2 (by decide +kernel) (by decide +kernel)
theorem q_3 : Cond.initialized RJxa1e45 ∈ lw_g := lw_g_at 3 (by decide +kernel) (by decide +kernel)
theorem q_4 : Cond.initialized RJxc12de ∈ lw_g := lw_g_at 4 (by decide +kernel) (by decide +kernel)
theorem q_5 : Cond.initialized RJx4a65c ∈ lw_g := lw_g_at 5 (by decide +kernel) (by decide +kernel)
theorem q_6 : Cond.initialized RX3 ∈ lw_g := lw_g_at 6 (by decide +kernel) (by decide +kernel)
theorem q_7 : Cond.initialized RX1 ∈ lw_g := lw_g_at 7 (by decide +kernel) (by decide +kernel)
theorem q_8 : Cond.initialized RX6 ∈ lw_g := lw_g_at 8 (by decide +kernel) (by decide +kernel)
theorem q_9 : Cond.initialized "java/lang/Throwable" ∈ lw_g := lw_g_at 9 (by decide +kernel) (by decide +kernel)
theorem q_10 : Cond.initialized "java/lang/Exception" ∈ lw_g := lw_g_at 10 (by decide +kernel) (by decide +kernel)
theorem q_11 : Cond.initialized "java/lang/RuntimeException" ∈ lw_g := lw_g_at 11 (by decide +kernel) (by decide +kernel)
theorem q_12 : Cond.initialized "java/lang/ArithmeticException" ∈ lw_g := lw_g_at 12 (by decide +kernel) (by decide +kernel)
theorem q_13 : Cond.initialized RJ0 ∈ lw_g := lw_g_at 13 (by decide +kernel) (by decide +kernel)
theorem q_14 : Cond.initialized RX2 ∈ lw_g := lw_g_at 14 (by decide +kernel) (by decide +kernel)
theorem q_15 : Cond.initialized RX4 ∈ lw_g := lw_g_at 15 (by decide +kernel) (by decide +kernel)
theorem q_16 : Cond.initialized RJ8 ∈ lw_g := lw_g_at 16 (by decide +kernel) (by decide +kernel)
theorem q_17 : Cond.initialized "java/lang/Math" ∈ lw_g := lw_g_at 17 (by decide +kernel) (by decide +kernel)
theorem q_18 : Cond.initialized RJ7 ∈ lw_g := lw_g_at 18 (by decide +kernel) (by decide +kernel)
theorem q_19 : Cond.initialized RJ10 ∈ lw_g := lw_g_at 19 (by decide +kernel) (by decide +kernel)
theorem q_20 : Cond.initialized RJ15 ∈ lw_g := lw_g_at 20 (by decide +kernel) (by decide +kernel)
theorem q_21 : Cond.initialized RJ3 ∈ lw_g := lw_g_at 21 (by decide +kernel) (by decide +kernel)
theorem q_22 : Cond.classLink RL 8 RX5 ∈ lw_g := lw_g_at 22 (by decide +kernel) (by decide +kernel)
theorem q_23 : Cond.instantiable RX5 3 ∈ lw_g := lw_g_at 23 (by decide +kernel) (by decide +kernel)
theorem q_24 : Cond.methodLink RL 15 yX5_init ∈ lw_g := lw_g_at 24 (by decide +kernel) (by decide +kernel)
theorem q_25 : Cond.instanceMethod yX5_init ∈ lw_g := lw_g_at 25 (by decide +kernel) (by decide +kernel)
theorem q_26 : Cond.code yX5_init cX5_init 1 none ∈ lw_g := lw_g_at 26 (by decide +kernel) (by decide +kernel)
theorem q_27 : Cond.methodLink RX5 1 Lib.objectInit ∈ lw_g := lw_g_at 27 (by decide +kernel) (by decide +kernel)
theorem q_28 : Cond.instanceMethod Lib.objectInit ∈ lw_g := lw_g_at 28 (by decide +kernel) (by decide +kernel)
theorem q_29 : Cond.code Lib.objectInit ⟨#[0xb1]⟩ 1 none ∈ lw_g := lw_g_at 29 (by decide +kernel) (by decide +kernel)
theorem q_30 : Cond.classLink RX5 7 RX0 ∈ lw_g := lw_g_at 30 (by decide +kernel) (by decide +kernel)
theorem q_31 : Cond.instantiable RX0 3 ∈ lw_g := lw_g_at 31 (by decide +kernel) (by decide +kernel)
theorem q_32 : Cond.methodLink RX5 9 yX0_init ∈ lw_g := lw_g_at 32 (by decide +kernel) (by decide +kernel)
theorem q_33 : Cond.instanceMethod yX0_init ∈ lw_g := lw_g_at 33 (by decide +kernel) (by decide +kernel)
theorem q_34 : Cond.code yX0_init cX0_init 2 none ∈ lw_g := lw_g_at 34 (by decide +kernel) (by decide +kernel)
theorem q_35 : Cond.methodLink RX0 3 Lib.objectInit ∈ lw_g := lw_g_at 35 (by decide +kernel) (by decide +kernel)
theorem q_36 : Cond.classLink RX0 9 RJx4a65c ∈ lw_g := lw_g_at 36 (by decide +kernel) (by decide +kernel)
theorem q_37 : Cond.instantiable RJx4a65c 3 ∈ lw_g := lw_g_at 37 (by decide +kernel) (by decide +kernel)
theorem q_38 : Cond.methodLink RX0 11 yJx4a65c_init_da8c8 ∈ lw_g := lw_g_at 38 (by decide +kernel) (by decide +kernel)
theorem q_39 : Cond.instanceMethod yJx4a65c_init_da8c8 ∈ lw_g := lw_g_at 39 (by decide +kernel) (by decide +kernel)
theorem q_40 : Cond.code yJx4a65c_init_da8c8 cJx4a65c_init_da8c8 1 none ∈ lw_g := lw_g_at 40 (by decide +kernel) (by decide +kernel)
theorem q_41 : Cond.methodLink RJx4a65c 1 yJxc12de_init_da8c8 ∈ lw_g := lw_g_at 41 (by decide +kernel) (by decide +kernel)
theorem q_42 : Cond.instanceMethod yJxc12de_init_da8c8 ∈ lw_g := lw_g_at 42 (by decide +kernel) (by decide +kernel)
theorem q_43 : Cond.code yJxc12de_init_da8c8 cJxc12de_init_da8c8 1 none ∈ lw_g := lw_g_at 43 (by decide +kernel) (by decide +kernel)
theorem q_44 : Cond.methodLink RJxc12de 1 yJxa1e45_init_da8c8 ∈ lw_g := lw_g_at 44 (by decide +kernel) (by decide +kernel)
theorem q_45 : Cond.instanceMethod yJxa1e45_init_da8c8 ∈ lw_g := lw_g_at 45 (by decide +kernel) (by decide +kernel)
theorem q_46 : Cond.code yJxa1e45_init_da8c8 cJxa1e45_init_da8c8 1 none ∈ lw_g := lw_g_at 46 (by decide +kernel) (by decide +kernel)
theorem q_47 : Cond.methodLink RJxa1e45 1 Lib.objectInit ∈ lw_g := lw_g_at 47 (by decide +kernel) (by decide +kernel)
theorem q_48 : Cond.fieldLink RJx4a65c 39 "java/util/ArrayList" "DEFAULTCAPACITY_EMPTY_ELEMENTDATA" "[Ljava/lang/Object;" ∈ lw_g := lw_g_at 48 (by decide +kernel) (by decide +kernel)
theorem q_50 : Cond.fieldLink RJx4a65c 9 "java/util/ArrayList" "elementData" "[Ljava/lang/Object;" ∈ lw_g := lw_g_at 50 (by decide +kernel) (by decide +kernel)
theorem q_51 : Cond.fieldLink RJx4a65c 48 "java/util/ArrayList" "size" "I" ∈ lw_g := lw_g_at 51 (by decide +kernel) (by decide +kernel)
theorem q_52 : Cond.fieldLink RJxc12de 7 "java/util/AbstractList" "modCount" "I" ∈ lw_g := lw_g_at 52 (by decide +kernel) (by decide +kernel)
theorem q_53 : Cond.fieldLink RJx4a65c 63 "java/util/ArrayList" "modCount" "I" ∈ lw_g := lw_g_at 53 (by decide +kernel) (by decide +kernel)
theorem q_54 : Cond.sameField "java/util/ArrayList" "java/util/AbstractList" "modCount" "I" ∈ lw_g := lw_g_at 54 (by decide +kernel) (by decide +kernel)
theorem q_62 : Cond.fieldLink RX0 12 "AnswerSums$Core" "tasks" "Ljava/util/ArrayList;" ∈ lw_g := lw_g_at 62 (by decide +kernel) (by decide +kernel)
theorem q_63 : Cond.fieldLink RX5 36 "AnswerSums$Core" "tasks" "Ljava/util/ArrayList;" ∈ lw_g := lw_g_at 63 (by decide +kernel) (by decide +kernel)
theorem q_64 : Cond.fieldLink RX0 18 "AnswerSums$Core" "interrupts" "Ljava/util/ArrayList;" ∈ lw_g := lw_g_at 64 (by decide +kernel) (by decide +kernel)
theorem q_65 : Cond.fieldLink RX5 172 "AnswerSums$Core" "interrupts" "Ljava/util/ArrayList;" ∈ lw_g := lw_g_at 65 (by decide +kernel) (by decide +kernel)
theorem q_66 : Cond.fieldLink RX0 21 "AnswerSums$Core" "ceilings" "[I" ∈ lw_g := lw_g_at 66 (by decide +kernel) (by decide +kernel)
theorem q_74 : Cond.arrayClass .int ∈ lw_g := lw_g_at 74 (by decide +kernel) (by decide +kernel)
theorem q_75 : Cond.classLink RX5 16 RX3 ∈ lw_g := lw_g_at 75 (by decide +kernel) (by decide +kernel)
theorem q_76 : Cond.instantiable RX3 10 ∈ lw_g := lw_g_at 76 (by decide +kernel) (by decide +kernel)
theorem q_78 : Cond.instanceMethod yX3_init ∈ lw_g := lw_g_at 78 (by decide +kernel) (by decide +kernel)
theorem q_79 : Cond.code yX3_init cX3_init 1 none ∈ lw_g := lw_g_at 79 (by decide +kernel) (by decide +kernel)
theorem q_80 : Cond.methodLink RX3 3 Lib.objectInit ∈ lw_g := lw_g_at 80 (by decide +kernel) (by decide +kernel)
theorem q_81 : Cond.fieldLink RX3 55 "AnswerSums$Phases" "known" "Z" ∈ lw_g := lw_g_at 81 (by decide +kernel) (by decide +kernel)
theorem q_82 : Cond.fieldLink RX5 157 "AnswerSums$Phases" "known" "Z" ∈ lw_g := lw_g_at 82 (by decide +kernel) (by decide +kernel)
theorem q_83 : Cond.fieldLink RX3 34 "AnswerSums$Phases" "count" "I" ∈ lw_g := lw_g_at 83 (by decide +kernel) (by decide +kernel)
theorem q_84 : Cond.fieldLink RX3 91 "AnswerSums$Phases" "end" "I" ∈ lw_g := lw_g_at 84 (by decide +kernel) (by decide +kernel)
theorem q_85 : Cond.fieldLink RX3 9 "AnswerSums$Phases" "longest" "[J" ∈ lw_g := lw_g_at 85 (by decide +kernel) (by decide +kernel)
theorem q_86 : Cond.fieldLink RX3 15 "AnswerSums$Phases" "rank" "[I" ∈ lw_g := lw_g_at 86 (by decide +kernel) (by decide +kernel)
theorem q_87 : Cond.fieldLink RX3 19 "AnswerSums$Phases" "own" "[J" ∈ lw_g := lw_g_at 87 (by decide +kernel) (by decide +kernel)
theorem q_88 : Cond.fieldLink RX3 22 "AnswerSums$Phases" "period" "[J" ∈ lw_g := lw_g_at 88 (by decide +kernel) (by decide +kernel)
theorem q_89 : Cond.fieldLink RX3 25 "AnswerSums$Phases" "told" "[J" ∈ lw_g := lw_g_at 89 (by decide +kernel) (by decide +kernel)
theorem q_90 : Cond.fieldLink RX3 28 "AnswerSums$Phases" "oldest" "[J" ∈ lw_g := lw_g_at 90 (by decide +kernel) (by decide +kernel)
theorem q_91 : Cond.fieldLink RX3 31 "AnswerSums$Phases" "left" "[J" ∈ lw_g := lw_g_at 91 (by decide +kernel) (by decide +kernel)
theorem q_113 : Cond.arrayClass .long ∈ lw_g := lw_g_at 113 (by decide +kernel) (by decide +kernel)
theorem q_114 : Cond.classLink RX5 23 RX1 ∈ lw_g := lw_g_at 114 (by decide +kernel) (by decide +kernel)
theorem q_115 : Cond.instantiable RX1 4 ∈ lw_g := lw_g_at 115 (by decide +kernel) (by decide +kernel)
theorem q_117 : Cond.instanceMethod yX1_init ∈ lw_g := lw_g_at 117 (by decide +kernel) (by decide +kernel)
theorem q_118 : Cond.code yX1_init cX1_init 1 none ∈ lw_g := lw_g_at 118 (by decide +kernel) (by decide +kernel)
theorem q_119 : Cond.methodLink RX1 3 Lib.objectInit ∈ lw_g := lw_g_at 119 (by decide +kernel) (by decide +kernel)
theorem q_120 : Cond.constantLong RX1 9 (-1) ∈ lw_g := lw_g_at 120 (by decide +kernel) (by decide +kernel)
theorem q_121 : Cond.fieldLink RX1 17 "AnswerSums$Finding" "known" "Z" ∈ lw_g := lw_g_at 121 (by decide +kernel) (by decide +kernel)
theorem q_122 : Cond.fieldLink RX5 186 "AnswerSums$Finding" "known" "Z" ∈ lw_g := lw_g_at 122 (by decide +kernel) (by decide +kernel)
theorem q_123 : Cond.fieldLink RX1 11 "AnswerSums$Finding" "answer" "J" ∈ lw_g := lw_g_at 123 (by decide +kernel) (by decide +kernel)
theorem q_124 : Cond.fieldLink RX5 111 "AnswerSums$Finding" "answer" "J" ∈ lw_g := lw_g_at 124 (by decide +kernel) (by decide +kernel)
theorem q_125 : Cond.fieldLink RX1 21 "AnswerSums$Finding" "turn" "I" ∈ lw_g := lw_g_at 125 (by decide +kernel) (by decide +kernel)
theorem q_126 : Cond.fieldLink RX5 191 "AnswerSums$Finding" "turn" "I" ∈ lw_g := lw_g_at 126 (by decide +kernel) (by decide +kernel)
theorem q_127 : Cond.fieldLink RX1 25 "AnswerSums$Finding" "span" "J" ∈ lw_g := lw_g_at 127 (by decide +kernel) (by decide +kernel)
theorem q_128 : Cond.fieldLink RX5 122 "AnswerSums$Finding" "span" "J" ∈ lw_g := lw_g_at 128 (by decide +kernel) (by decide +kernel)
theorem q_138 : Cond.fieldLink RX5 10 "AnswerSums" "core" "LAnswerSums$Core;" ∈ lw_g := lw_g_at 138 (by decide +kernel) (by decide +kernel)
theorem q_139 : Cond.fieldLink RX5 19 "AnswerSums" "phases" "LAnswerSums$Phases;" ∈ lw_g := lw_g_at 139 (by decide +kernel) (by decide +kernel)
theorem q_140 : Cond.fieldLink RX5 26 "AnswerSums" "trial" "LAnswerSums$Finding;" ∈ lw_g := lw_g_at 140 (by decide +kernel) (by decide +kernel)
theorem q_148 : Cond.methodLink RL 31 yX5_jitter ∈ lw_g := lw_g_at 148 (by decide +kernel) (by decide +kernel)
theorem q_149 : Cond.instanceMethod yX5_jitter ∈ lw_g := lw_g_at 149 (by decide +kernel) (by decide +kernel)
theorem q_150 : Cond.selects RX5 yX5_jitter yX5_jitter ∈ lw_g := lw_g_at 150 (by decide +kernel) (by decide +kernel)
theorem q_151 : Cond.code yX5_jitter cX5_jitter 5 (some .int) ∈ lw_g := lw_g_at 151 (by decide +kernel) (by decide +kernel)
theorem q_152 : Cond.methodLink RX5 65 yX0_taskOf ∈ lw_g := lw_g_at 152 (by decide +kernel) (by decide +kernel)
theorem q_153 : Cond.instanceMethod yX0_taskOf ∈ lw_g := lw_g_at 153 (by decide +kernel) (by decide +kernel)
theorem q_154 : Cond.selects RX0 yX0_taskOf yX0_taskOf ∈ lw_g := lw_g_at 154 (by decide +kernel) (by decide +kernel)
theorem q_155 : Cond.code yX0_taskOf cX0_taskOf 2 (some (.object "AnswerSums$Task")) ∈ lw_g := lw_g_at 155 (by decide +kernel) (by decide +kernel)
theorem q_156 : Cond.methodLink RX0 25 yJx4a65c_size_8abf5 ∈ lw_g := lw_g_at 156 (by decide +kernel) (by decide +kernel)
theorem q_157 : Cond.instanceMethod yJx4a65c_size_8abf5 ∈ lw_g := lw_g_at 157 (by decide +kernel) (by decide +kernel)
theorem q_158 : Cond.selects RJx4a65c yJx4a65c_size_8abf5 yJx4a65c_size_8abf5 ∈ lw_g := lw_g_at 158 (by decide +kernel) (by decide +kernel)
theorem q_159 : Cond.code yJx4a65c_size_8abf5 cJx4a65c_size_8abf5 1 (some .int) ∈ lw_g := lw_g_at 159 (by decide +kernel) (by decide +kernel)
theorem q_160 : Cond.methodLink RX0 29 yJx4a65c_get_915e3 ∈ lw_g := lw_g_at 160 (by decide +kernel) (by decide +kernel)
theorem q_161 : Cond.instanceMethod yJx4a65c_get_915e3 ∈ lw_g := lw_g_at 161 (by decide +kernel) (by decide +kernel)
theorem q_162 : Cond.selects RJx4a65c yJx4a65c_get_915e3 yJx4a65c_get_915e3 ∈ lw_g := lw_g_at 162 (by decide +kernel) (by decide +kernel)
theorem q_163 : Cond.code yJx4a65c_get_915e3 cJx4a65c_get_915e3 2 (some (.object "java/lang/Object")) ∈ lw_g := lw_g_at 163 (by decide +kernel) (by decide +kernel)
theorem q_164 : Cond.methodLink RJx4a65c 118 yJ15_checkIndex_7cf53 ∈ lw_g := lw_g_at 164 (by decide +kernel) (by decide +kernel)
theorem q_165 : Cond.static yJ15_checkIndex_7cf53 ∈ lw_g := lw_g_at 165 (by decide +kernel) (by decide +kernel)
theorem q_166 : Cond.code yJ15_checkIndex_7cf53 cJ15_checkIndex_7cf53 2 (some .int) ∈ lw_g := lw_g_at 166 (by decide +kernel) (by decide +kernel)
theorem q_167 : Cond.methodLink RJ15 105 yJ3_checkIndex_8e157 ∈ lw_g := lw_g_at 167 (by decide +kernel) (by decide +kernel)
theorem q_168 : Cond.static yJ3_checkIndex_8e157 ∈ lw_g := lw_g_at 168 (by decide +kernel) (by decide +kernel)
theorem q_169 : Cond.code yJ3_checkIndex_8e157 cJ3_checkIndex_8e157 3 (some .int) ∈ lw_g := lw_g_at 169 (by decide +kernel) (by decide +kernel)
theorem q_170 : Cond.methodLink RJx4a65c 123 yJx4a65c_elementData_915e3 ∈ lw_g := lw_g_at 170 (by decide +kernel) (by decide +kernel)
theorem q_171 : Cond.instanceMethod yJx4a65c_elementData_915e3 ∈ lw_g := lw_g_at 171 (by decide +kernel) (by decide +kernel)
theorem q_172 : Cond.selects RJx4a65c yJx4a65c_elementData_915e3 yJx4a65c_elementData_915e3 ∈ lw_g := lw_g_at 172 (by decide +kernel) (by decide +kernel)
theorem q_173 : Cond.code yJx4a65c_elementData_915e3 cJx4a65c_elementData_915e3 2 (some (.object "java/lang/Object")) ∈ lw_g := lw_g_at 173 (by decide +kernel) (by decide +kernel)
theorem q_174 : Cond.classLink RX0 33 RX4 ∈ lw_g := lw_g_at 174 (by decide +kernel) (by decide +kernel)
theorem q_175 : Cond.constantLong RX5 34 (20000) ∈ lw_g := lw_g_at 175 (by decide +kernel) (by decide +kernel)
theorem q_176 : Cond.methodLink RX5 62 yX5_forgetFindings ∈ lw_g := lw_g_at 176 (by decide +kernel) (by decide +kernel)
theorem q_178 : Cond.instanceMethod yX5_forgetFindings ∈ lw_g := lw_g_at 178 (by decide +kernel) (by decide +kernel)
theorem q_179 : Cond.code yX5_forgetFindings cX5_forgetFindings 2 none ∈ lw_g := lw_g_at 179 (by decide +kernel) (by decide +kernel)
theorem q_180 : Cond.methodLink RX5 40 yJx4a65c_size_8abf5 ∈ lw_g := lw_g_at 180 (by decide +kernel) (by decide +kernel)
theorem q_181 : Cond.methodLink RX5 144 yJx4a65c_get_915e3 ∈ lw_g := lw_g_at 181 (by decide +kernel) (by decide +kernel)
theorem q_182 : Cond.classLink RX5 53 RX4 ∈ lw_g := lw_g_at 182 (by decide +kernel) (by decide +kernel)
theorem q_183 : Cond.methodLink RL 36 yX5_burst ∈ lw_g := lw_g_at 183 (by decide +kernel) (by decide +kernel)
theorem q_184 : Cond.instanceMethod yX5_burst ∈ lw_g := lw_g_at 184 (by decide +kernel) (by decide +kernel)
theorem q_185 : Cond.selects RX5 yX5_burst yX5_burst ∈ lw_g := lw_g_at 185 (by decide +kernel) (by decide +kernel)
theorem q_186 : Cond.code yX5_burst cX5_burst 6 (some .int) ∈ lw_g := lw_g_at 186 (by decide +kernel) (by decide +kernel)
theorem q_187 : Cond.methodLink RX5 73 yX5_isPeriod ∈ lw_g := lw_g_at 187 (by decide +kernel) (by decide +kernel)
theorem q_188 : Cond.static yX5_isPeriod ∈ lw_g := lw_g_at 188 (by decide +kernel) (by decide +kernel)
theorem q_189 : Cond.code yX5_isPeriod cX5_isPeriod 2 (some .boolean) ∈ lw_g := lw_g_at 189 (by decide +kernel) (by decide +kernel)
theorem q_190 : Cond.methodLink RL 41 yX5_section ∈ lw_g := lw_g_at 190 (by decide +kernel) (by decide +kernel)
theorem q_191 : Cond.instanceMethod yX5_section ∈ lw_g := lw_g_at 191 (by decide +kernel) (by decide +kernel)
theorem q_192 : Cond.selects RX5 yX5_section yX5_section ∈ lw_g := lw_g_at 192 (by decide +kernel) (by decide +kernel)
theorem q_193 : Cond.code yX5_section cX5_section 6 (some .int) ∈ lw_g := lw_g_at 193 (by decide +kernel) (by decide +kernel)
theorem q_194 : Cond.methodLink RX5 30 yX5_isLength ∈ lw_g := lw_g_at 194 (by decide +kernel) (by decide +kernel)
theorem q_195 : Cond.static yX5_isLength ∈ lw_g := lw_g_at 195 (by decide +kernel) (by decide +kernel)
theorem q_196 : Cond.code yX5_isLength cX5_isLength 2 (some .boolean) ∈ lw_g := lw_g_at 196 (by decide +kernel) (by decide +kernel)
theorem q_197 : Cond.constantLong RX5 136 (1000) ∈ lw_g := lw_g_at 197 (by decide +kernel) (by decide +kernel)
theorem q_198 : Cond.methodLink RX5 86 yX4_addSection ∈ lw_g := lw_g_at 198 (by decide +kernel) (by decide +kernel)
theorem q_199 : Cond.instanceMethod yX4_addSection ∈ lw_g := lw_g_at 199 (by decide +kernel) (by decide +kernel)
theorem q_200 : Cond.selects RX4 yX4_addSection yX4_addSection ∈ lw_g := lw_g_at 200 (by decide +kernel) (by decide +kernel)
theorem q_201 : Cond.code yX4_addSection cX4_addSection 4 none ∈ lw_g := lw_g_at 201 (by decide +kernel) (by decide +kernel)
theorem q_202 : Cond.methodLink RX5 93 yX0_raiseCeiling ∈ lw_g := lw_g_at 202 (by decide +kernel) (by decide +kernel)
theorem q_203 : Cond.instanceMethod yX0_raiseCeiling ∈ lw_g := lw_g_at 203 (by decide +kernel) (by decide +kernel)
theorem q_204 : Cond.selects RX0 yX0_raiseCeiling yX0_raiseCeiling ∈ lw_g := lw_g_at 204 (by decide +kernel) (by decide +kernel)
theorem q_205 : Cond.code yX0_raiseCeiling cX0_raiseCeiling 3 none ∈ lw_g := lw_g_at 205 (by decide +kernel) (by decide +kernel)
theorem q_206 : Cond.methodLink RX0 35 Lib.Math.max.name ∈ lw_g := lw_g_at 206 (by decide +kernel) (by decide +kernel)
theorem q_207 : Cond.static Lib.Math.max.name ∈ lw_g := lw_g_at 207 (by decide +kernel) (by decide +kernel)
theorem q_208 : Cond.code Lib.Math.max.name Lib.Math.max.code 2 (some .int) ∈ lw_g := lw_g_at 208 (by decide +kernel) (by decide +kernel)
theorem q_209 : Cond.methodLink RL 45 yX5_offset ∈ lw_g := lw_g_at 209 (by decide +kernel) (by decide +kernel)
theorem q_210 : Cond.instanceMethod yX5_offset ∈ lw_g := lw_g_at 210 (by decide +kernel) (by decide +kernel)
theorem q_211 : Cond.selects RX5 yX5_offset yX5_offset ∈ lw_g := lw_g_at 211 (by decide +kernel) (by decide +kernel)
theorem q_212 : Cond.code yX5_offset cX5_offset 5 (some .int) ∈ lw_g := lw_g_at 212 (by decide +kernel) (by decide +kernel)
theorem q_213 : Cond.constantLong RX5 97 (-1) ∈ lw_g := lw_g_at 213 (by decide +kernel) (by decide +kernel)
theorem q_214 : Cond.methodLink RL 49 yX5_answer ∈ lw_g := lw_g_at 214 (by decide +kernel) (by decide +kernel)
theorem q_215 : Cond.instanceMethod yX5_answer ∈ lw_g := lw_g_at 215 (by decide +kernel) (by decide +kernel)
theorem q_216 : Cond.selects RX5 yX5_answer yX5_answer ∈ lw_g := lw_g_at 216 (by decide +kernel) (by decide +kernel)
theorem q_217 : Cond.code yX5_answer cX5_answer 3 (some .long) ∈ lw_g := lw_g_at 217 (by decide +kernel) (by decide +kernel)
theorem q_218 : Cond.constantLong RX5 105 (-2) ∈ lw_g := lw_g_at 218 (by decide +kernel) (by decide +kernel)
theorem q_219 : Cond.methodLink RX5 107 yX5_findingOf ∈ lw_g := lw_g_at 219 (by decide +kernel) (by decide +kernel)
theorem q_221 : Cond.instanceMethod yX5_findingOf ∈ lw_g := lw_g_at 221 (by decide +kernel) (by decide +kernel)
theorem q_222 : Cond.code yX5_findingOf cX5_findingOf 2 (some (.object "AnswerSums$Finding")) ∈ lw_g := lw_g_at 222 (by decide +kernel) (by decide +kernel)
theorem q_223 : Cond.methodLink RX5 187 yX0_find ∈ lw_g := lw_g_at 223 (by decide +kernel) (by decide +kernel)
theorem q_224 : Cond.instanceMethod yX0_find ∈ lw_g := lw_g_at 224 (by decide +kernel) (by decide +kernel)
theorem q_225 : Cond.selects RX0 yX0_find yX0_find ∈ lw_g := lw_g_at 225 (by decide +kernel) (by decide +kernel)
theorem q_226 : Cond.code yX0_find cX0_find 23 none ∈ lw_g := lw_g_at 226 (by decide +kernel) (by decide +kernel)
theorem q_227 : Cond.methodLink RX0 86 yX1_start ∈ lw_g := lw_g_at 227 (by decide +kernel) (by decide +kernel)
theorem q_228 : Cond.instanceMethod yX1_start ∈ lw_g := lw_g_at 228 (by decide +kernel) (by decide +kernel)
theorem q_229 : Cond.selects RX1 yX1_start yX1_start ∈ lw_g := lw_g_at 229 (by decide +kernel) (by decide +kernel)
theorem q_230 : Cond.code yX1_start cX1_start 1 none ∈ lw_g := lw_g_at 230 (by decide +kernel) (by decide +kernel)
theorem q_231 : Cond.constantLong RX0 91 (1000000) ∈ lw_g := lw_g_at 231 (by decide +kernel) (by decide +kernel)
theorem q_232 : Cond.methodLink RX0 93 yX0_leastShareAbove ∈ lw_g := lw_g_at 232 (by decide +kernel) (by decide +kernel)
theorem q_234 : Cond.instanceMethod yX0_leastShareAbove ∈ lw_g := lw_g_at 234 (by decide +kernel) (by decide +kernel)
theorem q_235 : Cond.code yX0_leastShareAbove cX0_leastShareAbove 6 (some .long) ∈ lw_g := lw_g_at 235 (by decide +kernel) (by decide +kernel)
theorem q_236 : Cond.methodLink RX0 66 yX4_isAbove ∈ lw_g := lw_g_at 236 (by decide +kernel) (by decide +kernel)
theorem q_237 : Cond.instanceMethod yX4_isAbove ∈ lw_g := lw_g_at 237 (by decide +kernel) (by decide +kernel)
theorem q_238 : Cond.selects RX4 yX4_isAbove yX4_isAbove ∈ lw_g := lw_g_at 238 (by decide +kernel) (by decide +kernel)
theorem q_239 : Cond.code yX4_isAbove cX4_isAbove 2 (some .boolean) ∈ lw_g := lw_g_at 239 (by decide +kernel) (by decide +kernel)
theorem q_240 : Cond.methodLink RX0 82 ⟨"AnswerSums$Task", "leastShare", "()J"⟩ ∈ lw_g := lw_g_at 240 (by decide +kernel) (by decide +kernel)
theorem q_241 : Cond.sameMethod RX4 RX2 "leastShare" "()J" ∈ lw_g := lw_g_at 241 (by decide +kernel) (by decide +kernel)
theorem q_243 : Cond.selects RX4 ⟨"AnswerSums$Task", "leastShare", "()J"⟩ yX2_leastShare ∈ lw_g := lw_g_at 243 (by decide +kernel) (by decide +kernel)
theorem q_244 : Cond.instanceMethod yX2_leastShare ∈ lw_g := lw_g_at 244 (by decide +kernel) (by decide +kernel)
theorem q_245 : Cond.code yX2_leastShare cX2_leastShare 1 (some .long) ∈ lw_g := lw_g_at 245 (by decide +kernel) (by decide +kernel)
theorem q_246 : Cond.constantLong RX2 49 (1000000) ∈ lw_g := lw_g_at 246 (by decide +kernel) (by decide +kernel)
theorem q_247 : Cond.methodLink RX2 51 yX2_cost ∈ lw_g := lw_g_at 247 (by decide +kernel) (by decide +kernel)
theorem q_248 : Cond.instanceMethod yX2_cost ∈ lw_g := lw_g_at 248 (by decide +kernel) (by decide +kernel)
theorem q_249 : Cond.selects RX2 yX2_cost yX2_cost ∈ lw_g := lw_g_at 249 (by decide +kernel) (by decide +kernel)
theorem q_250 : Cond.sameMethod RX2 RX2 "cost" "()J" ∈ lw_g := lw_g_at 250 (by decide +kernel) (by decide +kernel)
theorem q_251 : Cond.selects RX4 yX2_cost yX2_cost ∈ lw_g := lw_g_at 251 (by decide +kernel) (by decide +kernel)
theorem q_252 : Cond.code yX2_cost cX2_cost 1 (some .long) ∈ lw_g := lw_g_at 252 (by decide +kernel) (by decide +kernel)
theorem q_254 : Cond.static yX5_whole ∈ lw_g := lw_g_at 254 (by decide +kernel) (by decide +kernel)
theorem q_255 : Cond.code yX5_whole cX5_whole 4 (some .long) ∈ lw_g := lw_g_at 255 (by decide +kernel) (by decide +kernel)
theorem q_256 : Cond.methodLink RX2 55 yX2_load ∈ lw_g := lw_g_at 256 (by decide +kernel) (by decide +kernel)
theorem q_257 : Cond.instanceMethod yX2_load ∈ lw_g := lw_g_at 257 (by decide +kernel) (by decide +kernel)
theorem q_258 : Cond.selects RX2 yX2_load yX2_load ∈ lw_g := lw_g_at 258 (by decide +kernel) (by decide +kernel)
theorem q_259 : Cond.sameMethod RX2 RX2 "load" "()J" ∈ lw_g := lw_g_at 259 (by decide +kernel) (by decide +kernel)
theorem q_260 : Cond.selects RX4 yX2_load yX2_load ∈ lw_g := lw_g_at 260 (by decide +kernel) (by decide +kernel)
theorem q_261 : Cond.code yX2_load cX2_load 1 (some .long) ∈ lw_g := lw_g_at 261 (by decide +kernel) (by decide +kernel)
theorem q_262 : Cond.methodLink RX2 38 Lib.MathLoose.min_long.x ∈ lw_g := lw_g_at 262 (by decide +kernel) (by decide +kernel)
theorem q_263 : Cond.static Lib.MathLoose.min_long.x ∈ lw_g := lw_g_at 263 (by decide +kernel) (by decide +kernel)
theorem q_264 : Cond.code Lib.MathLoose.min_long.x Lib.MathLoose.min_long.code 4 (some .long) ∈ lw_g := lw_g_at 264 (by decide +kernel) (by decide +kernel)
theorem q_265 : Cond.classLink RX0 70 RX2 ∈ lw_g := lw_g_at 265 (by decide +kernel) (by decide +kernel)
theorem q_266 : Cond.methodLink RX0 85 yX2_leastShare ∈ lw_g := lw_g_at 266 (by decide +kernel) (by decide +kernel)
theorem q_267 : Cond.methodLink RX0 97 yX0_blockingOf ∈ lw_g := lw_g_at 267 (by decide +kernel) (by decide +kernel)
theorem q_268 : Cond.instanceMethod yX0_blockingOf ∈ lw_g := lw_g_at 268 (by decide +kernel) (by decide +kernel)
theorem q_269 : Cond.selects RX0 yX0_blockingOf yX0_blockingOf ∈ lw_g := lw_g_at 269 (by decide +kernel) (by decide +kernel)
theorem q_270 : Cond.code yX0_blockingOf cX0_blockingOf 6 (some .long) ∈ lw_g := lw_g_at 270 (by decide +kernel) (by decide +kernel)
theorem q_271 : Cond.methodLink RX0 45 yX0_longestSection ∈ lw_g := lw_g_at 271 (by decide +kernel) (by decide +kernel)
theorem q_273 : Cond.instanceMethod yX0_longestSection ∈ lw_g := lw_g_at 273 (by decide +kernel) (by decide +kernel)
theorem q_274 : Cond.code yX0_longestSection cX0_longestSection 6 (some .long) ∈ lw_g := lw_g_at 274 (by decide +kernel) (by decide +kernel)
theorem q_275 : Cond.methodLink RX0 58 yX0_ceilingOf ∈ lw_g := lw_g_at 275 (by decide +kernel) (by decide +kernel)
theorem q_277 : Cond.instanceMethod yX0_ceilingOf ∈ lw_g := lw_g_at 277 (by decide +kernel) (by decide +kernel)
theorem q_278 : Cond.code yX0_ceilingOf cX0_ceilingOf 2 (some .int) ∈ lw_g := lw_g_at 278 (by decide +kernel) (by decide +kernel)
theorem q_279 : Cond.methodLink RX0 49 Lib.MathLoose.max_long.x ∈ lw_g := lw_g_at 279 (by decide +kernel) (by decide +kernel)
theorem q_280 : Cond.static Lib.MathLoose.max_long.x ∈ lw_g := lw_g_at 280 (by decide +kernel) (by decide +kernel)
theorem q_281 : Cond.code Lib.MathLoose.max_long.x Lib.MathLoose.max_long.code 4 (some .long) ∈ lw_g := lw_g_at 281 (by decide +kernel) (by decide +kernel)
theorem q_282 : Cond.methodLink RX0 76 ⟨"AnswerSums$Task", "cost", "()J"⟩ ∈ lw_g := lw_g_at 282 (by decide +kernel) (by decide +kernel)
theorem q_283 : Cond.sameMethod RX4 RX2 "cost" "()J" ∈ lw_g := lw_g_at 283 (by decide +kernel) (by decide +kernel)
theorem q_285 : Cond.selects RX4 ⟨"AnswerSums$Task", "cost", "()J"⟩ yX2_cost ∈ lw_g := lw_g_at 285 (by decide +kernel) (by decide +kernel)
theorem q_286 : Cond.methodLink RX0 100 ⟨"AnswerSums$Task", "laterOf", "(I)J"⟩ ∈ lw_g := lw_g_at 286 (by decide +kernel) (by decide +kernel)
theorem q_287 : Cond.sameMethod RX4 RX2 "laterOf" "(I)J" ∈ lw_g := lw_g_at 287 (by decide +kernel) (by decide +kernel)
theorem q_289 : Cond.selects RX4 ⟨"AnswerSums$Task", "laterOf", "(I)J"⟩ yX2_laterOf ∈ lw_g := lw_g_at 289 (by decide +kernel) (by decide +kernel)
theorem q_290 : Cond.instanceMethod yX2_laterOf ∈ lw_g := lw_g_at 290 (by decide +kernel) (by decide +kernel)
theorem q_291 : Cond.code yX2_laterOf cX2_laterOf 4 (some .long) ∈ lw_g := lw_g_at 291 (by decide +kernel) (by decide +kernel)
theorem q_292 : Cond.methodLink RX2 46 Lib.MathLoose.max_long.x ∈ lw_g := lw_g_at 292 (by decide +kernel) (by decide +kernel)
theorem q_294 : Cond.static yX5_upwards ∈ lw_g := lw_g_at 294 (by decide +kernel) (by decide +kernel)
theorem q_295 : Cond.code yX5_upwards cX5_upwards 4 (some .long) ∈ lw_g := lw_g_at 295 (by decide +kernel) (by decide +kernel)
theorem q_296 : Cond.constantLong RX0 107 (40000) ∈ lw_g := lw_g_at 296 (by decide +kernel) (by decide +kernel)
theorem q_297 : Cond.methodLink RX0 113 Lib.MathLoose.min_long.x ∈ lw_g := lw_g_at 297 (by decide +kernel) (by decide +kernel)
theorem q_298 : Cond.methodLink RX0 116 yX0_spanFrom ∈ lw_g := lw_g_at 298 (by decide +kernel) (by decide +kernel)
theorem q_300 : Cond.instanceMethod yX0_spanFrom ∈ lw_g := lw_g_at 300 (by decide +kernel) (by decide +kernel)
theorem q_301 : Cond.code yX0_spanFrom cX0_spanFrom 14 (some .long) ∈ lw_g := lw_g_at 301 (by decide +kernel) (by decide +kernel)
theorem q_302 : Cond.methodLink RX0 126 yX0_takenAbove ∈ lw_g := lw_g_at 302 (by decide +kernel) (by decide +kernel)
theorem q_304 : Cond.instanceMethod yX0_takenAbove ∈ lw_g := lw_g_at 304 (by decide +kernel) (by decide +kernel)
theorem q_305 : Cond.code yX0_takenAbove cX0_takenAbove 8 (some .long) ∈ lw_g := lw_g_at 305 (by decide +kernel) (by decide +kernel)
theorem q_306 : Cond.methodLink RX0 72 ⟨"AnswerSums$Task", "activationsIn", "(J)J"⟩ ∈ lw_g := lw_g_at 306 (by decide +kernel) (by decide +kernel)
theorem q_307 : Cond.sameMethod RX4 RX2 "activationsIn" "(J)J" ∈ lw_g := lw_g_at 307 (by decide +kernel) (by decide +kernel)
theorem q_309 : Cond.selects RX4 ⟨"AnswerSums$Task", "activationsIn", "(J)J"⟩ yX2_activationsIn ∈ lw_g := lw_g_at 309 (by decide +kernel) (by decide +kernel)
theorem q_310 : Cond.instanceMethod yX2_activationsIn ∈ lw_g := lw_g_at 310 (by decide +kernel) (by decide +kernel)
theorem q_311 : Cond.code yX2_activationsIn cX2_activationsIn 3 (some .long) ∈ lw_g := lw_g_at 311 (by decide +kernel) (by decide +kernel)
theorem q_313 : Cond.methodLink RX0 80 yX2_activationsIn ∈ lw_g := lw_g_at 313 (by decide +kernel) (by decide +kernel)
theorem q_314 : Cond.methodLink RX0 81 yX2_cost ∈ lw_g := lw_g_at 314 (by decide +kernel) (by decide +kernel)
theorem q_315 : Cond.constantLong RX0 120 (-1) ∈ lw_g := lw_g_at 315 (by decide +kernel) (by decide +kernel)
theorem q_316 : Cond.methodLink RX0 122 yX1_tell ∈ lw_g := lw_g_at 316 (by decide +kernel) (by decide +kernel)
theorem q_317 : Cond.instanceMethod yX1_tell ∈ lw_g := lw_g_at 317 (by decide +kernel) (by decide +kernel)
theorem q_318 : Cond.selects RX1 yX1_tell yX1_tell ∈ lw_g := lw_g_at 318 (by decide +kernel) (by decide +kernel)
theorem q_319 : Cond.code yX1_tell cX1_tell 6 none ∈ lw_g := lw_g_at 319 (by decide +kernel) (by decide +kernel)
theorem q_320 : Cond.methodLink RL 54 yX5_reason ∈ lw_g := lw_g_at 320 (by decide +kernel) (by decide +kernel)
theorem q_321 : Cond.instanceMethod yX5_reason ∈ lw_g := lw_g_at 321 (by decide +kernel) (by decide +kernel)
theorem q_322 : Cond.selects RX5 yX5_reason yX5_reason ∈ lw_g := lw_g_at 322 (by decide +kernel) (by decide +kernel)
theorem q_323 : Cond.code yX5_reason cX5_reason 7 (some .int) ∈ lw_g := lw_g_at 323 (by decide +kernel) (by decide +kernel)
theorem q_324 : Cond.methodLink RX5 114 yX0_partAbove ∈ lw_g := lw_g_at 324 (by decide +kernel) (by decide +kernel)
theorem q_325 : Cond.instanceMethod yX0_partAbove ∈ lw_g := lw_g_at 325 (by decide +kernel) (by decide +kernel)
theorem q_326 : Cond.selects RX0 yX0_partAbove yX0_partAbove ∈ lw_g := lw_g_at 326 (by decide +kernel) (by decide +kernel)
theorem q_327 : Cond.code yX0_partAbove cX0_partAbove 6 (some (.object "AnswerSums$Part")) ∈ lw_g := lw_g_at 327 (by decide +kernel) (by decide +kernel)
theorem q_328 : Cond.methodLink RX5 118 yX5_rowOfItself ∈ lw_g := lw_g_at 328 (by decide +kernel) (by decide +kernel)
theorem q_330 : Cond.instanceMethod yX5_rowOfItself ∈ lw_g := lw_g_at 330 (by decide +kernel) (by decide +kernel)
theorem q_331 : Cond.code yX5_rowOfItself cX5_rowOfItself 4 (some .long) ∈ lw_g := lw_g_at 331 (by decide +kernel) (by decide +kernel)
theorem q_332 : Cond.methodLink RX5 194 ⟨"AnswerSums$Task", "cost", "()J"⟩ ∈ lw_g := lw_g_at 332 (by decide +kernel) (by decide +kernel)
theorem q_333 : Cond.methodLink RX5 197 yX0_blockingOf ∈ lw_g := lw_g_at 333 (by decide +kernel) (by decide +kernel)
theorem q_334 : Cond.methodLink RX5 125 yX5_rowOfPart ∈ lw_g := lw_g_at 334 (by decide +kernel) (by decide +kernel)
theorem q_336 : Cond.instanceMethod yX5_rowOfPart ∈ lw_g := lw_g_at 336 (by decide +kernel) (by decide +kernel)
theorem q_337 : Cond.code yX5_rowOfPart cX5_rowOfPart 7 (some .long) ∈ lw_g := lw_g_at 337 (by decide +kernel) (by decide +kernel)
theorem q_338 : Cond.methodLink RX5 204 yX2_activationsIn ∈ lw_g := lw_g_at 338 (by decide +kernel) (by decide +kernel)
theorem q_339 : Cond.methodLink RX5 208 yX2_cost ∈ lw_g := lw_g_at 339 (by decide +kernel) (by decide +kernel)
theorem q_340 : Cond.methodLink RL 59 yX5_longer ∈ lw_g := lw_g_at 340 (by decide +kernel) (by decide +kernel)
theorem q_341 : Cond.instanceMethod yX5_longer ∈ lw_g := lw_g_at 341 (by decide +kernel) (by decide +kernel)
theorem q_342 : Cond.selects RX5 yX5_longer yX5_longer ∈ lw_g := lw_g_at 342 (by decide +kernel) (by decide +kernel)
theorem q_343 : Cond.code yX5_longer cX5_longer 12 (some .long) ∈ lw_g := lw_g_at 343 (by decide +kernel) (by decide +kernel)
theorem q_344 : Cond.methodLink RX5 129 yX5_allHaveAnswers ∈ lw_g := lw_g_at 344 (by decide +kernel) (by decide +kernel)
theorem q_346 : Cond.instanceMethod yX5_allHaveAnswers ∈ lw_g := lw_g_at 346 (by decide +kernel) (by decide +kernel)
theorem q_347 : Cond.code yX5_allHaveAnswers cX5_allHaveAnswers 2 (some .boolean) ∈ lw_g := lw_g_at 347 (by decide +kernel) (by decide +kernel)
theorem q_348 : Cond.constantLong RX5 138 (2) ∈ lw_g := lw_g_at 348 (by decide +kernel) (by decide +kernel)
theorem q_349 : Cond.methodLink RL 63 yX5_busy ∈ lw_g := lw_g_at 349 (by decide +kernel) (by decide +kernel)
theorem q_350 : Cond.instanceMethod yX5_busy ∈ lw_g := lw_g_at 350 (by decide +kernel) (by decide +kernel)
theorem q_351 : Cond.selects RX5 yX5_busy yX5_busy ∈ lw_g := lw_g_at 351 (by decide +kernel) (by decide +kernel)
theorem q_352 : Cond.code yX5_busy cX5_busy 9 (some .long) ∈ lw_g := lw_g_at 352 (by decide +kernel) (by decide +kernel)
theorem q_353 : Cond.methodLink RX5 140 yX0_wholeLoad ∈ lw_g := lw_g_at 353 (by decide +kernel) (by decide +kernel)
theorem q_354 : Cond.instanceMethod yX0_wholeLoad ∈ lw_g := lw_g_at 354 (by decide +kernel) (by decide +kernel)
theorem q_355 : Cond.selects RX0 yX0_wholeLoad yX0_wholeLoad ∈ lw_g := lw_g_at 355 (by decide +kernel) (by decide +kernel)
theorem q_356 : Cond.code yX0_wholeLoad cX0_wholeLoad 4 (some .long) ∈ lw_g := lw_g_at 356 (by decide +kernel) (by decide +kernel)
theorem q_357 : Cond.methodLink RX0 130 ⟨"AnswerSums$Task", "load", "()J"⟩ ∈ lw_g := lw_g_at 357 (by decide +kernel) (by decide +kernel)
theorem q_358 : Cond.sameMethod RX4 RX2 "load" "()J" ∈ lw_g := lw_g_at 358 (by decide +kernel) (by decide +kernel)
theorem q_360 : Cond.selects RX4 ⟨"AnswerSums$Task", "load", "()J"⟩ yX2_load ∈ lw_g := lw_g_at 360 (by decide +kernel) (by decide +kernel)
theorem q_361 : Cond.methodLink RX0 133 yX2_load ∈ lw_g := lw_g_at 361 (by decide +kernel) (by decide +kernel)
theorem q_362 : Cond.methodLink RX5 148 Lib.MathLoose.max_long.x ∈ lw_g := lw_g_at 362 (by decide +kernel) (by decide +kernel)
theorem q_363 : Cond.methodLink RL 67 yX5_plain ∈ lw_g := lw_g_at 363 (by decide +kernel) (by decide +kernel)
theorem q_364 : Cond.instanceMethod yX5_plain ∈ lw_g := lw_g_at 364 (by decide +kernel) (by decide +kernel)
theorem q_365 : Cond.selects RX5 yX5_plain yX5_plain ∈ lw_g := lw_g_at 365 (by decide +kernel) (by decide +kernel)
theorem q_366 : Cond.code yX5_plain cX5_plain 7 (some .boolean) ∈ lw_g := lw_g_at 366 (by decide +kernel) (by decide +kernel)
theorem q_367 : Cond.methodLink RX5 154 yX0_mayBeRun ∈ lw_g := lw_g_at 367 (by decide +kernel) (by decide +kernel)
theorem q_368 : Cond.instanceMethod yX0_mayBeRun ∈ lw_g := lw_g_at 368 (by decide +kernel) (by decide +kernel)
theorem q_369 : Cond.selects RX0 yX0_mayBeRun yX0_mayBeRun ∈ lw_g := lw_g_at 369 (by decide +kernel) (by decide +kernel)
theorem q_370 : Cond.code yX0_mayBeRun cX0_mayBeRun 5 (some .boolean) ∈ lw_g := lw_g_at 370 (by decide +kernel) (by decide +kernel)
theorem q_371 : Cond.methodLink RX0 134 yJx4a65c_isEmpty_aae02 ∈ lw_g := lw_g_at 371 (by decide +kernel) (by decide +kernel)
theorem q_372 : Cond.instanceMethod yJx4a65c_isEmpty_aae02 ∈ lw_g := lw_g_at 372 (by decide +kernel) (by decide +kernel)
theorem q_373 : Cond.selects RJx4a65c yJx4a65c_isEmpty_aae02 yJx4a65c_isEmpty_aae02 ∈ lw_g := lw_g_at 373 (by decide +kernel) (by decide +kernel)
theorem q_374 : Cond.code yJx4a65c_isEmpty_aae02 cJx4a65c_isEmpty_aae02 1 (some .boolean) ∈ lw_g := lw_g_at 374 (by decide +kernel) (by decide +kernel)
theorem q_375 : Cond.methodLink RX0 138 yX0_wholeLoad ∈ lw_g := lw_g_at 375 (by decide +kernel) (by decide +kernel)
theorem q_376 : Cond.methodLink RX0 141 yX4_isPlain ∈ lw_g := lw_g_at 376 (by decide +kernel) (by decide +kernel)
theorem q_377 : Cond.instanceMethod yX4_isPlain ∈ lw_g := lw_g_at 377 (by decide +kernel) (by decide +kernel)
theorem q_378 : Cond.selects RX4 yX4_isPlain yX4_isPlain ∈ lw_g := lw_g_at 378 (by decide +kernel) (by decide +kernel)
theorem q_379 : Cond.code yX4_isPlain cX4_isPlain 1 (some .boolean) ∈ lw_g := lw_g_at 379 (by decide +kernel) (by decide +kernel)
theorem q_380 : Cond.constantLong RX0 144 (60) ∈ lw_g := lw_g_at 380 (by decide +kernel) (by decide +kernel)
theorem q_381 : Cond.methodLink RX5 161 yX3_runAll ∈ lw_g := lw_g_at 381 (by decide +kernel) (by decide +kernel)
theorem q_382 : Cond.instanceMethod yX3_runAll ∈ lw_g := lw_g_at 382 (by decide +kernel) (by decide +kernel)
theorem q_383 : Cond.selects RX3 yX3_runAll yX3_runAll ∈ lw_g := lw_g_at 383 (by decide +kernel) (by decide +kernel)
theorem q_384 : Cond.code yX3_runAll cX3_runAll 6 none ∈ lw_g := lw_g_at 384 (by decide +kernel) (by decide +kernel)
theorem q_385 : Cond.methodLink RX3 40 yX3_take ∈ lw_g := lw_g_at 385 (by decide +kernel) (by decide +kernel)
theorem q_387 : Cond.instanceMethod yX3_take ∈ lw_g := lw_g_at 387 (by decide +kernel) (by decide +kernel)
theorem q_388 : Cond.code yX3_take cX3_take 6 none ∈ lw_g := lw_g_at 388 (by decide +kernel) (by decide +kernel)
theorem q_389 : Cond.methodLink RX3 59 yJx4a65c_size_8abf5 ∈ lw_g := lw_g_at 389 (by decide +kernel) (by decide +kernel)
theorem q_390 : Cond.methodLink RX3 65 Lib.Math.min.name ∈ lw_g := lw_g_at 390 (by decide +kernel) (by decide +kernel)
theorem q_391 : Cond.static Lib.Math.min.name ∈ lw_g := lw_g_at 391 (by decide +kernel) (by decide +kernel)
theorem q_392 : Cond.code Lib.Math.min.name Lib.Math.min.code 2 (some .int) ∈ lw_g := lw_g_at 392 (by decide +kernel) (by decide +kernel)
theorem q_393 : Cond.methodLink RX3 71 yJx4a65c_get_915e3 ∈ lw_g := lw_g_at 393 (by decide +kernel) (by decide +kernel)
theorem q_394 : Cond.classLink RX3 44 RX4 ∈ lw_g := lw_g_at 394 (by decide +kernel) (by decide +kernel)
theorem q_395 : Cond.methodLink RX3 85 yX3_leastCommonMultiple ∈ lw_g := lw_g_at 395 (by decide +kernel) (by decide +kernel)
theorem q_396 : Cond.static yX3_leastCommonMultiple ∈ lw_g := lw_g_at 396 (by decide +kernel) (by decide +kernel)
theorem q_397 : Cond.code yX3_leastCommonMultiple cX3_leastCommonMultiple 7 (some .long) ∈ lw_g := lw_g_at 397 (by decide +kernel) (by decide +kernel)
theorem q_398 : Cond.constantLong RX3 94 (20000) ∈ lw_g := lw_g_at 398 (by decide +kernel) (by decide +kernel)
theorem q_399 : Cond.methodLink RX3 96 Lib.MathLoose.max_long.x ∈ lw_g := lw_g_at 399 (by decide +kernel) (by decide +kernel)
theorem q_400 : Cond.constantLong RX3 89 (3) ∈ lw_g := lw_g_at 400 (by decide +kernel) (by decide +kernel)
theorem q_401 : Cond.constantLong RX3 38 (-1) ∈ lw_g := lw_g_at 401 (by decide +kernel) (by decide +kernel)
theorem q_402 : Cond.constantLong RX3 46 (60) ∈ lw_g := lw_g_at 402 (by decide +kernel) (by decide +kernel)
theorem q_403 : Cond.methodLink RX3 48 yX3_start ∈ lw_g := lw_g_at 403 (by decide +kernel) (by decide +kernel)
theorem q_405 : Cond.instanceMethod yX3_start ∈ lw_g := lw_g_at 405 (by decide +kernel) (by decide +kernel)
theorem q_406 : Cond.code yX3_start cX3_start 8 none ∈ lw_g := lw_g_at 406 (by decide +kernel) (by decide +kernel)
theorem q_408 : Cond.methodLink RX3 52 yX3_run ∈ lw_g := lw_g_at 408 (by decide +kernel) (by decide +kernel)
theorem q_410 : Cond.instanceMethod yX3_run ∈ lw_g := lw_g_at 410 (by decide +kernel) (by decide +kernel)
theorem q_411 : Cond.code yX3_run cX3_run 3 none ∈ lw_g := lw_g_at 411 (by decide +kernel) (by decide +kernel)
theorem q_412 : Cond.constant RX3 102 (1000000) ∈ lw_g := lw_g_at 412 (by decide +kernel) (by decide +kernel)
theorem q_413 : Cond.methodLink RX3 103 yX3_hasMore ∈ lw_g := lw_g_at 413 (by decide +kernel) (by decide +kernel)
theorem q_415 : Cond.instanceMethod yX3_hasMore ∈ lw_g := lw_g_at 415 (by decide +kernel) (by decide +kernel)
theorem q_416 : Cond.code yX3_hasMore cX3_hasMore 2 (some .boolean) ∈ lw_g := lw_g_at 416 (by decide +kernel) (by decide +kernel)
theorem q_417 : Cond.methodLink RX3 107 yX3_chosenAt ∈ lw_g := lw_g_at 417 (by decide +kernel) (by decide +kernel)
theorem q_419 : Cond.instanceMethod yX3_chosenAt ∈ lw_g := lw_g_at 419 (by decide +kernel) (by decide +kernel)
theorem q_420 : Cond.code yX3_chosenAt cX3_chosenAt 4 (some .int) ∈ lw_g := lw_g_at 420 (by decide +kernel) (by decide +kernel)
theorem q_421 : Cond.methodLink RX3 115 yX3_goesBefore ∈ lw_g := lw_g_at 421 (by decide +kernel) (by decide +kernel)
theorem q_423 : Cond.instanceMethod yX3_goesBefore ∈ lw_g := lw_g_at 423 (by decide +kernel) (by decide +kernel)
theorem q_424 : Cond.code yX3_goesBefore cX3_goesBefore 3 (some .boolean) ∈ lw_g := lw_g_at 424 (by decide +kernel) (by decide +kernel)
theorem q_425 : Cond.methodLink RX3 111 yX3_work ∈ lw_g := lw_g_at 425 (by decide +kernel) (by decide +kernel)
theorem q_427 : Cond.instanceMethod yX3_work ∈ lw_g := lw_g_at 427 (by decide +kernel) (by decide +kernel)
theorem q_428 : Cond.code yX3_work cX3_work 3 none ∈ lw_g := lw_g_at 428 (by decide +kernel) (by decide +kernel)
theorem q_429 : Cond.methodLink RX5 165 yX3_longestOf ∈ lw_g := lw_g_at 429 (by decide +kernel) (by decide +kernel)
theorem q_430 : Cond.instanceMethod yX3_longestOf ∈ lw_g := lw_g_at 430 (by decide +kernel) (by decide +kernel)
theorem q_431 : Cond.selects RX3 yX3_longestOf yX3_longestOf ∈ lw_g := lw_g_at 431 (by decide +kernel) (by decide +kernel)
theorem q_432 : Cond.code yX3_longestOf cX3_longestOf 2 (some .long) ∈ lw_g := lw_g_at 432 (by decide +kernel) (by decide +kernel)
theorem q_433 : Cond.methodLink RX5 169 yX0_tellsAnyPhase ∈ lw_g := lw_g_at 433 (by decide +kernel) (by decide +kernel)
theorem q_434 : Cond.instanceMethod yX0_tellsAnyPhase ∈ lw_g := lw_g_at 434 (by decide +kernel) (by decide +kernel)
theorem q_435 : Cond.selects RX0 yX0_tellsAnyPhase yX0_tellsAnyPhase ∈ lw_g := lw_g_at 435 (by decide +kernel) (by decide +kernel)
theorem q_436 : Cond.code yX0_tellsAnyPhase cX0_tellsAnyPhase 2 (some .boolean) ∈ lw_g := lw_g_at 436 (by decide +kernel) (by decide +kernel)
theorem q_437 : Cond.methodLink RX0 146 yX4_tellsPhase ∈ lw_g := lw_g_at 437 (by decide +kernel) (by decide +kernel)
theorem q_438 : Cond.instanceMethod yX4_tellsPhase ∈ lw_g := lw_g_at 438 (by decide +kernel) (by decide +kernel)
theorem q_439 : Cond.selects RX4 yX4_tellsPhase yX4_tellsPhase ∈ lw_g := lw_g_at 439 (by decide +kernel) (by decide +kernel)
theorem q_440 : Cond.code yX4_tellsPhase cX4_tellsPhase 1 (some .boolean) ∈ lw_g := lw_g_at 440 (by decide +kernel) (by decide +kernel)
theorem q_441 : Cond.constantLong RX4 28 (-1) ∈ lw_g := lw_g_at 441 (by decide +kernel) (by decide +kernel)
theorem q_442 : Cond.methodLink RL 72 yX5_interrupt ∈ lw_g := lw_g_at 442 (by decide +kernel) (by decide +kernel)
theorem q_443 : Cond.instanceMethod yX5_interrupt ∈ lw_g := lw_g_at 443 (by decide +kernel) (by decide +kernel)
theorem q_444 : Cond.selects RX5 yX5_interrupt yX5_interrupt ∈ lw_g := lw_g_at 444 (by decide +kernel) (by decide +kernel)
theorem q_445 : Cond.code yX5_interrupt cX5_interrupt 6 (some .int) ∈ lw_g := lw_g_at 445 (by decide +kernel) (by decide +kernel)
theorem q_446 : Cond.classLink RX5 175 RX2 ∈ lw_g := lw_g_at 446 (by decide +kernel) (by decide +kernel)
theorem q_447 : Cond.instantiable RX2 7 ∈ lw_g := lw_g_at 447 (by decide +kernel) (by decide +kernel)
theorem q_448 : Cond.methodLink RX5 177 yX2_init ∈ lw_g := lw_g_at 448 (by decide +kernel) (by decide +kernel)
theorem q_449 : Cond.instanceMethod yX2_init ∈ lw_g := lw_g_at 449 (by decide +kernel) (by decide +kernel)
theorem q_450 : Cond.code yX2_init cX2_init 6 none ∈ lw_g := lw_g_at 450 (by decide +kernel) (by decide +kernel)
theorem q_451 : Cond.methodLink RX2 3 Lib.objectInit ∈ lw_g := lw_g_at 451 (by decide +kernel) (by decide +kernel)
theorem q_452 : Cond.fieldLink RX2 19 "AnswerSums$Part" "sign" "I" ∈ lw_g := lw_g_at 452 (by decide +kernel) (by decide +kernel)
theorem q_453 : Cond.fieldLink RX5 201 "AnswerSums$Part" "sign" "I" ∈ lw_g := lw_g_at 453 (by decide +kernel) (by decide +kernel)
theorem q_454 : Cond.fieldLink RX2 25 "AnswerSums$Part" "period" "J" ∈ lw_g := lw_g_at 454 (by decide +kernel) (by decide +kernel)
theorem q_455 : Cond.fieldLink RX3 80 "AnswerSums$Task" "period" "J" ∈ lw_g := lw_g_at 455 (by decide +kernel) (by decide +kernel)
theorem q_456 : Cond.sameField "AnswerSums$Task" "AnswerSums$Part" "period" "J" ∈ lw_g := lw_g_at 456 (by decide +kernel) (by decide +kernel)
theorem q_457 : Cond.fieldLink RX5 99 "AnswerSums$Task" "period" "J" ∈ lw_g := lw_g_at 457 (by decide +kernel) (by decide +kernel)
theorem q_458 : Cond.fieldLink RX0 109 "AnswerSums$Task" "period" "J" ∈ lw_g := lw_g_at 458 (by decide +kernel) (by decide +kernel)
theorem q_459 : Cond.fieldLink RX2 22 "AnswerSums$Part" "own" "J" ∈ lw_g := lw_g_at 459 (by decide +kernel) (by decide +kernel)
theorem q_460 : Cond.fieldLink RX3 77 "AnswerSums$Task" "own" "J" ∈ lw_g := lw_g_at 460 (by decide +kernel) (by decide +kernel)
theorem q_461 : Cond.sameField "AnswerSums$Task" "AnswerSums$Part" "own" "J" ∈ lw_g := lw_g_at 461 (by decide +kernel) (by decide +kernel)
theorem q_462 : Cond.fieldLink RX5 133 "AnswerSums$Task" "own" "J" ∈ lw_g := lw_g_at 462 (by decide +kernel) (by decide +kernel)
theorem q_463 : Cond.fieldLink RX2 28 "AnswerSums$Part" "spin" "J" ∈ lw_g := lw_g_at 463 (by decide +kernel) (by decide +kernel)
theorem q_464 : Cond.fieldLink RX4 47 "AnswerSums$Task" "spin" "J" ∈ lw_g := lw_g_at 464 (by decide +kernel) (by decide +kernel)
theorem q_465 : Cond.sameField "AnswerSums$Task" "AnswerSums$Part" "spin" "J" ∈ lw_g := lw_g_at 465 (by decide +kernel) (by decide +kernel)
theorem q_466 : Cond.fieldLink RX5 180 "AnswerSums$Task" "spin" "J" ∈ lw_g := lw_g_at 466 (by decide +kernel) (by decide +kernel)
theorem q_467 : Cond.fieldLink RX2 35 "AnswerSums$Part" "jitter" "J" ∈ lw_g := lw_g_at 467 (by decide +kernel) (by decide +kernel)
theorem q_468 : Cond.fieldLink RX5 69 "AnswerSums$Task" "jitter" "J" ∈ lw_g := lw_g_at 468 (by decide +kernel) (by decide +kernel)
theorem q_469 : Cond.sameField "AnswerSums$Task" "AnswerSums$Part" "jitter" "J" ∈ lw_g := lw_g_at 469 (by decide +kernel) (by decide +kernel)
theorem q_470 : Cond.fieldLink RX4 41 "AnswerSums$Task" "jitter" "J" ∈ lw_g := lw_g_at 470 (by decide +kernel) (by decide +kernel)
theorem q_471 : Cond.fieldLink RX2 9 "AnswerSums$Part" "inner" "J" ∈ lw_g := lw_g_at 471 (by decide +kernel) (by decide +kernel)
theorem q_472 : Cond.fieldLink RX5 80 "AnswerSums$Task" "inner" "J" ∈ lw_g := lw_g_at 472 (by decide +kernel) (by decide +kernel)
theorem q_473 : Cond.sameField "AnswerSums$Task" "AnswerSums$Part" "inner" "J" ∈ lw_g := lw_g_at 473 (by decide +kernel) (by decide +kernel)
theorem q_474 : Cond.fieldLink RX2 15 "AnswerSums$Part" "atATime" "I" ∈ lw_g := lw_g_at 474 (by decide +kernel) (by decide +kernel)
theorem q_475 : Cond.fieldLink RX4 44 "AnswerSums$Task" "atATime" "I" ∈ lw_g := lw_g_at 475 (by decide +kernel) (by decide +kernel)
theorem q_476 : Cond.sameField "AnswerSums$Task" "AnswerSums$Part" "atATime" "I" ∈ lw_g := lw_g_at 476 (by decide +kernel) (by decide +kernel)
theorem q_477 : Cond.fieldLink RX5 76 "AnswerSums$Task" "atATime" "I" ∈ lw_g := lw_g_at 477 (by decide +kernel) (by decide +kernel)
theorem q_493 : Cond.methodLink RX5 58 yJx4a65c_add_9ea2d ∈ lw_g := lw_g_at 493 (by decide +kernel) (by decide +kernel)
theorem q_494 : Cond.instanceMethod yJx4a65c_add_9ea2d ∈ lw_g := lw_g_at 494 (by decide +kernel) (by decide +kernel)
theorem q_495 : Cond.selects RJx4a65c yJx4a65c_add_9ea2d yJx4a65c_add_9ea2d ∈ lw_g := lw_g_at 495 (by decide +kernel) (by decide +kernel)
theorem q_496 : Cond.code yJx4a65c_add_9ea2d cJx4a65c_add_9ea2d 2 (some .boolean) ∈ lw_g := lw_g_at 496 (by decide +kernel) (by decide +kernel)
theorem q_497 : Cond.methodLink RJx4a65c 131 yJx4a65c_add_72be8 ∈ lw_g := lw_g_at 497 (by decide +kernel) (by decide +kernel)
theorem q_499 : Cond.instanceMethod yJx4a65c_add_72be8 ∈ lw_g := lw_g_at 499 (by decide +kernel) (by decide +kernel)
theorem q_500 : Cond.code yJx4a65c_add_72be8 cJx4a65c_add_72be8 4 none ∈ lw_g := lw_g_at 500 (by decide +kernel) (by decide +kernel)
theorem q_501 : Cond.methodLink RJx4a65c 129 yJx4a65c_grow_d5877 ∈ lw_g := lw_g_at 501 (by decide +kernel) (by decide +kernel)
theorem q_503 : Cond.instanceMethod yJx4a65c_grow_d5877 ∈ lw_g := lw_g_at 503 (by decide +kernel) (by decide +kernel)
theorem q_504 : Cond.code yJx4a65c_grow_d5877 cJx4a65c_grow_d5877 1 (some (.array (.object "java/lang/Object"))) ∈ lw_g := lw_g_at 504 (by decide +kernel) (by decide +kernel)
theorem q_505 : Cond.methodLink RJx4a65c 69 yJx4a65c_grow_92f84 ∈ lw_g := lw_g_at 505 (by decide +kernel) (by decide +kernel)
theorem q_507 : Cond.instanceMethod yJx4a65c_grow_92f84 ∈ lw_g := lw_g_at 507 (by decide +kernel) (by decide +kernel)
theorem q_508 : Cond.code yJx4a65c_grow_92f84 cJx4a65c_grow_92f84 4 (some (.array (.object "java/lang/Object"))) ∈ lw_g := lw_g_at 508 (by decide +kernel) (by decide +kernel)
theorem q_509 : Cond.methodLink RJx4a65c 73 yJ8_newLength_cabcc ∈ lw_g := lw_g_at 509 (by decide +kernel) (by decide +kernel)
theorem q_510 : Cond.static yJ8_newLength_cabcc ∈ lw_g := lw_g_at 510 (by decide +kernel) (by decide +kernel)
theorem q_511 : Cond.code yJ8_newLength_cabcc cJ8_newLength_cabcc 4 (some .int) ∈ lw_g := lw_g_at 511 (by decide +kernel) (by decide +kernel)
theorem q_512 : Cond.methodLink RJ8 194 Lib.Math.max.name ∈ lw_g := lw_g_at 512 (by decide +kernel) (by decide +kernel)
theorem q_513 : Cond.constant RJ8 200 (2147483639) ∈ lw_g := lw_g_at 513 (by decide +kernel) (by decide +kernel)
theorem q_514 : Cond.methodLink RJ8 201 yJ8_hugeLength_7cf53 ∈ lw_g := lw_g_at 514 (by decide +kernel) (by decide +kernel)
theorem q_515 : Cond.static yJ8_hugeLength_7cf53 ∈ lw_g := lw_g_at 515 (by decide +kernel) (by decide +kernel)
theorem q_516 : Cond.code yJ8_hugeLength_7cf53 cJ8_hugeLength_7cf53 3 (some .int) ∈ lw_g := lw_g_at 516 (by decide +kernel) (by decide +kernel)
theorem q_517 : Cond.methodLink RJx4a65c 66 yJ7_copyOf_1904c ∈ lw_g := lw_g_at 517 (by decide +kernel) (by decide +kernel)
theorem q_518 : Cond.static yJ7_copyOf_1904c ∈ lw_g := lw_g_at 518 (by decide +kernel) (by decide +kernel)
theorem q_519 : Cond.code yJ7_copyOf_1904c cJ7_copyOf_1904c 2 (some (.array (.object "java/lang/Object"))) ∈ lw_g := lw_g_at 519 (by decide +kernel) (by decide +kernel)
theorem q_520 : Cond.methodLink RJ7 86 ⟨"java/lang/Object", "getClass", "()Ljava/lang/Class;"⟩ ∈ lw_g := lw_g_at 520 (by decide +kernel) (by decide +kernel)
theorem q_521 : Cond.instanceMethod ⟨"java/lang/Object", "getClass", "()Ljava/lang/Class;"⟩ ∈ lw_g := lw_g_at 521 (by decide +kernel) (by decide +kernel)
theorem q_522 : Cond.sameMethod "java/lang/Object" "java/lang/Object" "getClass" "()Ljava/lang/Class;" ∈ lw_g := lw_g_at 522 (by decide +kernel) (by decide +kernel)
theorem q_523 : Cond.selects RX5 ⟨"java/lang/Object", "getClass", "()Ljava/lang/Class;"⟩ ⟨"java/lang/Object", "getClass", "()Ljava/lang/Class;"⟩ ∈ lw_g := lw_g_at 523 (by decide +kernel) (by decide +kernel)
theorem q_524 : Cond.selects RX0 ⟨"java/lang/Object", "getClass", "()Ljava/lang/Class;"⟩ ⟨"java/lang/Object", "getClass", "()Ljava/lang/Class;"⟩ ∈ lw_g := lw_g_at 524 (by decide +kernel) (by decide +kernel)
theorem q_525 : Cond.selects RX1 ⟨"java/lang/Object", "getClass", "()Ljava/lang/Class;"⟩ ⟨"java/lang/Object", "getClass", "()Ljava/lang/Class;"⟩ ∈ lw_g := lw_g_at 525 (by decide +kernel) (by decide +kernel)
theorem q_526 : Cond.selects RX2 ⟨"java/lang/Object", "getClass", "()Ljava/lang/Class;"⟩ ⟨"java/lang/Object", "getClass", "()Ljava/lang/Class;"⟩ ∈ lw_g := lw_g_at 526 (by decide +kernel) (by decide +kernel)
theorem q_527 : Cond.selects RX3 ⟨"java/lang/Object", "getClass", "()Ljava/lang/Class;"⟩ ⟨"java/lang/Object", "getClass", "()Ljava/lang/Class;"⟩ ∈ lw_g := lw_g_at 527 (by decide +kernel) (by decide +kernel)
theorem q_528 : Cond.selects RX4 ⟨"java/lang/Object", "getClass", "()Ljava/lang/Class;"⟩ ⟨"java/lang/Object", "getClass", "()Ljava/lang/Class;"⟩ ∈ lw_g := lw_g_at 528 (by decide +kernel) (by decide +kernel)
theorem q_529 : Cond.selects RX6 ⟨"java/lang/Object", "getClass", "()Ljava/lang/Class;"⟩ ⟨"java/lang/Object", "getClass", "()Ljava/lang/Class;"⟩ ∈ lw_g := lw_g_at 529 (by decide +kernel) (by decide +kernel)
theorem q_530 : Cond.selects "java/lang/ArithmeticException" ⟨"java/lang/Object", "getClass", "()Ljava/lang/Class;"⟩ ⟨"java/lang/Object", "getClass", "()Ljava/lang/Class;"⟩ ∈ lw_g := lw_g_at 530 (by decide +kernel) (by decide +kernel)
theorem q_531 : Cond.selects RJx4a65c ⟨"java/lang/Object", "getClass", "()Ljava/lang/Class;"⟩ ⟨"java/lang/Object", "getClass", "()Ljava/lang/Class;"⟩ ∈ lw_g := lw_g_at 531 (by decide +kernel) (by decide +kernel)
theorem q_533 : Cond.methodLink RJ7 300 yJ7_copyOf_6403c ∈ lw_g := lw_g_at 533 (by decide +kernel) (by decide +kernel)
theorem q_534 : Cond.static yJ7_copyOf_6403c ∈ lw_g := lw_g_at 534 (by decide +kernel) (by decide +kernel)
theorem q_535 : Cond.code yJ7_copyOf_6403c cJ7_copyOf_6403c 4 (some (.array (.object "java/lang/Object"))) ∈ lw_g := lw_g_at 535 (by decide +kernel) (by decide +kernel)
theorem q_536 : Cond.classLink RJ7 110 "[Ljava/lang/Object;" ∈ lw_g := lw_g_at 536 (by decide +kernel) (by decide +kernel)
theorem q_538 : Cond.classLink RJ7 2 "java/lang/Object" ∈ lw_g := lw_g_at 538 (by decide +kernel) (by decide +kernel)
theorem q_539 : Cond.methodLink RJ7 304 Lib.Math.min.name ∈ lw_g := lw_g_at 539 (by decide +kernel) (by decide +kernel)
theorem q_540 : Cond.methodLink RJ7 150 ⟨"java/lang/System", "arraycopy", "(Ljava/lang/Object;ILjava/lang/Object;II)V"⟩ ∈ lw_g := lw_g_at 540 (by decide +kernel) (by decide +kernel)
theorem q_541 : Cond.static ⟨"java/lang/System", "arraycopy", "(Ljava/lang/Object;ILjava/lang/Object;II)V"⟩ ∈ lw_g := lw_g_at 541 (by decide +kernel) (by decide +kernel)
theorem q_543 : Cond.methodLink RJx4a65c 79 Lib.Math.max.name ∈ lw_g := lw_g_at 543 (by decide +kernel) (by decide +kernel)
theorem q_544 : Cond.classLink RJx4a65c 7 "java/lang/Object" ∈ lw_g := lw_g_at 544 (by decide +kernel) (by decide +kernel)
theorem q_545 : Cond.methodLink RL 77 yX5_spin ∈ lw_g := lw_g_at 545 (by decide +kernel) (by decide +kernel)
theorem q_546 : Cond.instanceMethod yX5_spin ∈ lw_g := lw_g_at 546 (by decide +kernel) (by decide +kernel)
theorem q_547 : Cond.selects RX5 yX5_spin yX5_spin ∈ lw_g := lw_g_at 547 (by decide +kernel) (by decide +kernel)
theorem q_548 : Cond.code yX5_spin cX5_spin 5 (some .int) ∈ lw_g := lw_g_at 548 (by decide +kernel) (by decide +kernel)
theorem q_549 : Cond.methodLink RL 21 yL_task ∈ lw_g := lw_g_at 549 (by decide +kernel) (by decide +kernel)
theorem q_550 : Cond.static yL_task ∈ lw_g := lw_g_at 550 (by decide +kernel) (by decide +kernel)
theorem q_552 : Cond.classLink RL 13 "java/lang/ArithmeticException" ∈ lw_g := lw_g_at 552 (by decide +kernel) (by decide +kernel)
theorem q_553 : Cond.instantiable "java/lang/ArithmeticException" 6 ∈ lw_g := lw_g_at 553 (by decide +kernel) (by decide +kernel)
theorem q_554 : Cond.instanceMethod ⟨"java/lang/ArithmeticException", "<init>", "(Ljava/lang/String;)V"⟩ ∈ lw_g := lw_g_at 554 (by decide +kernel) (by decide +kernel)
theorem q_555 : Cond.code ⟨"java/lang/ArithmeticException", "<init>", "(Ljava/lang/String;)V"⟩ prog_10_method_2_code 2 none ∈ lw_g := lw_g_at 555 (by decide +kernel) (by decide +kernel)
theorem q_556 : Cond.methodLink "java/lang/ArithmeticException" 7 ⟨"java/lang/RuntimeException", "<init>", "(Ljava/lang/String;)V"⟩ ∈ lw_g := lw_g_at 556 (by decide +kernel) (by decide +kernel)
theorem q_557 : Cond.instanceMethod ⟨"java/lang/RuntimeException", "<init>", "(Ljava/lang/String;)V"⟩ ∈ lw_g := lw_g_at 557 (by decide +kernel) (by decide +kernel)
theorem q_558 : Cond.code ⟨"java/lang/RuntimeException", "<init>", "(Ljava/lang/String;)V"⟩ prog_15_method_2_code 2 none ∈ lw_g := lw_g_at 558 (by decide +kernel) (by decide +kernel)
theorem q_559 : Cond.methodLink "java/lang/RuntimeException" 7 ⟨"java/lang/Exception", "<init>", "(Ljava/lang/String;)V"⟩ ∈ lw_g := lw_g_at 559 (by decide +kernel) (by decide +kernel)
theorem q_560 : Cond.instanceMethod ⟨"java/lang/Exception", "<init>", "(Ljava/lang/String;)V"⟩ ∈ lw_g := lw_g_at 560 (by decide +kernel) (by decide +kernel)
theorem q_561 : Cond.code ⟨"java/lang/Exception", "<init>", "(Ljava/lang/String;)V"⟩ prog_12_method_2_code 2 none ∈ lw_g := lw_g_at 561 (by decide +kernel) (by decide +kernel)
theorem q_562 : Cond.methodLink "java/lang/Exception" 7 ⟨"java/lang/Throwable", "<init>", "(Ljava/lang/String;)V"⟩ ∈ lw_g := lw_g_at 562 (by decide +kernel) (by decide +kernel)
theorem q_563 : Cond.instanceMethod ⟨"java/lang/Throwable", "<init>", "(Ljava/lang/String;)V"⟩ ∈ lw_g := lw_g_at 563 (by decide +kernel) (by decide +kernel)
theorem q_564 : Cond.code ⟨"java/lang/Throwable", "<init>", "(Ljava/lang/String;)V"⟩ prog_18_method_2_code 2 none ∈ lw_g := lw_g_at 564 (by decide +kernel) (by decide +kernel)
theorem q_565 : Cond.methodLink "java/lang/Throwable" 1 Lib.objectInit ∈ lw_g := lw_g_at 565 (by decide +kernel) (by decide +kernel)
theorem q_566 : Cond.fieldLink "java/lang/Throwable" 13 "java/lang/Throwable" "UNASSIGNED_STACK" "[Ljava/lang/StackTraceElement;" ∈ lw_g := lw_g_at 566 (by decide +kernel) (by decide +kernel)
theorem q_568 : Cond.fieldLink "java/lang/Throwable" 20 "java/lang/Throwable" "SUPPRESSED_SENTINEL" "Ljava/util/List;" ∈ lw_g := lw_g_at 568 (by decide +kernel) (by decide +kernel)
theorem q_570 : Cond.methodLink "java/lang/Throwable" 27 ⟨"java/lang/Throwable", "fillInStackTrace", "()Ljava/lang/Throwable;"⟩ ∈ lw_g := lw_g_at 570 (by decide +kernel) (by decide +kernel)
theorem q_571 : Cond.instanceMethod ⟨"java/lang/Throwable", "fillInStackTrace", "()Ljava/lang/Throwable;"⟩ ∈ lw_g := lw_g_at 571 (by decide +kernel) (by decide +kernel)
theorem q_572 : Cond.sameMethod "java/lang/Throwable" "java/lang/Throwable" "fillInStackTrace" "()Ljava/lang/Throwable;" ∈ lw_g := lw_g_at 572 (by decide +kernel) (by decide +kernel)
theorem q_573 : Cond.selects "java/lang/ArithmeticException" ⟨"java/lang/Throwable", "fillInStackTrace", "()Ljava/lang/Throwable;"⟩ ⟨"java/lang/Throwable", "fillInStackTrace", "()Ljava/lang/Throwable;"⟩ ∈ lw_g := lw_g_at 573 (by decide +kernel) (by decide +kernel)
theorem q_575 : Cond.methodLink "java/lang/Throwable" 202 ⟨"java/lang/Throwable", "fillInStackTrace", "(I)Ljava/lang/Throwable;"⟩ ∈ lw_g := lw_g_at 575 (by decide +kernel) (by decide +kernel)
theorem q_577 : Cond.instanceMethod ⟨"java/lang/Throwable", "fillInStackTrace", "(I)Ljava/lang/Throwable;"⟩ ∈ lw_g := lw_g_at 577 (by decide +kernel) (by decide +kernel)
theorem q_578 : Cond.instantiable "java/lang/Throwable" 6 ∈ lw_g := lw_g_at 578 (by decide +kernel) (by decide +kernel)
theorem q_580 : Cond.fieldLink "java/lang/Throwable" 198 "java/lang/Throwable" "backtrace" "Ljava/lang/Object;" ∈ lw_g := lw_g_at 580 (by decide +kernel) (by decide +kernel)
theorem q_581 : Cond.fieldLink "java/lang/Throwable" 31 "java/lang/Throwable" "detailMessage" "Ljava/lang/String;" ∈ lw_g := lw_g_at 581 (by decide +kernel) (by decide +kernel)
theorem q_582 : Cond.fieldLink "java/lang/Throwable" 7 "java/lang/Throwable" "cause" "Ljava/lang/Throwable;" ∈ lw_g := lw_g_at 582 (by decide +kernel) (by decide +kernel)
theorem q_583 : Cond.fieldLink "java/lang/Throwable" 17 "java/lang/Throwable" "stackTrace" "[Ljava/lang/StackTraceElement;" ∈ lw_g := lw_g_at 583 (by decide +kernel) (by decide +kernel)
theorem q_584 : Cond.fieldLink "java/lang/Throwable" 24 "java/lang/Throwable" "suppressedExceptions" "Ljava/util/List;" ∈ lw_g := lw_g_at 584 (by decide +kernel) (by decide +kernel)
theorem q_605 : Cond.selects "java/lang/ArithmeticException" ⟨"java/lang/Throwable", "fillInStackTrace", "(I)Ljava/lang/Throwable;"⟩ ⟨"java/lang/Throwable", "fillInStackTrace", "(I)Ljava/lang/Throwable;"⟩ ∈ lw_g := lw_g_at 605 (by decide +kernel) (by decide +kernel)
theorem q_613 : Cond.instanceMethod ⟨"java/lang/Throwable", "<init>", "()V"⟩ ∈ lw_g := lw_g_at 613 (by decide +kernel) (by decide +kernel)
theorem q_614 : Cond.code ⟨"java/lang/Throwable", "<init>", "()V"⟩ prog_18_method_1_code 1 none ∈ lw_g := lw_g_at 614 (by decide +kernel) (by decide +kernel)
theorem q_615 : Cond.instantiable RJ0 4 ∈ lw_g := lw_g_at 615 (by decide +kernel) (by decide +kernel)
theorem q_616 : Cond.arrayClass .byte ∈ lw_g := lw_g_at 616 (by decide +kernel) (by decide +kernel)
theorem q_621 : Cond.methodLink RL 7 yX5_task ∈ lw_g := lw_g_at 621 (by decide +kernel) (by decide +kernel)
theorem q_622 : Cond.instanceMethod yX5_task ∈ lw_g := lw_g_at 622 (by decide +kernel) (by decide +kernel)
theorem q_623 : Cond.selects RX5 yX5_task yX5_task ∈ lw_g := lw_g_at 623 (by decide +kernel) (by decide +kernel)
theorem q_624 : Cond.code yX5_task cX5_task 7 (some .int) ∈ lw_g := lw_g_at 624 (by decide +kernel) (by decide +kernel)
theorem q_625 : Cond.classLink RX5 46 "java/lang/ArithmeticException" ∈ lw_g := lw_g_at 625 (by decide +kernel) (by decide +kernel)
theorem q_627 : Cond.methodLink RX5 50 ⟨"java/lang/ArithmeticException", "<init>", "(Ljava/lang/String;)V"⟩ ∈ lw_g := lw_g_at 627 (by decide +kernel) (by decide +kernel)
theorem q_628 : Cond.instantiable RX4 13 ∈ lw_g := lw_g_at 628 (by decide +kernel) (by decide +kernel)
theorem q_629 : Cond.methodLink RX5 55 yX4_init ∈ lw_g := lw_g_at 629 (by decide +kernel) (by decide +kernel)
theorem q_630 : Cond.instanceMethod yX4_init ∈ lw_g := lw_g_at 630 (by decide +kernel) (by decide +kernel)
theorem q_631 : Cond.code yX4_init cX4_init 7 none ∈ lw_g := lw_g_at 631 (by decide +kernel) (by decide +kernel)
theorem q_632 : Cond.methodLink RX4 3 yX2_init ∈ lw_g := lw_g_at 632 (by decide +kernel) (by decide +kernel)
theorem q_633 : Cond.classLink RX4 19 RX1 ∈ lw_g := lw_g_at 633 (by decide +kernel) (by decide +kernel)
theorem q_635 : Cond.fieldLink RX4 34 "AnswerSums$Task" "rank" "I" ∈ lw_g := lw_g_at 635 (by decide +kernel) (by decide +kernel)
theorem q_636 : Cond.fieldLink RX3 75 "AnswerSums$Task" "rank" "I" ∈ lw_g := lw_g_at 636 (by decide +kernel) (by decide +kernel)
theorem q_637 : Cond.fieldLink RX0 41 "AnswerSums$Task" "rank" "I" ∈ lw_g := lw_g_at 637 (by decide +kernel) (by decide +kernel)
theorem q_638 : Cond.fieldLink RX5 90 "AnswerSums$Task" "rank" "I" ∈ lw_g := lw_g_at 638 (by decide +kernel) (by decide +kernel)
theorem q_639 : Cond.fieldLink RX4 9 "AnswerSums$Task" "resources" "[I" ∈ lw_g := lw_g_at 639 (by decide +kernel) (by decide +kernel)
theorem q_640 : Cond.fieldLink RX0 55 "AnswerSums$Task" "resources" "[I" ∈ lw_g := lw_g_at 640 (by decide +kernel) (by decide +kernel)
theorem q_641 : Cond.fieldLink RX4 15 "AnswerSums$Task" "lengths" "[J" ∈ lw_g := lw_g_at 641 (by decide +kernel) (by decide +kernel)
theorem q_642 : Cond.fieldLink RX0 62 "AnswerSums$Task" "lengths" "[J" ∈ lw_g := lw_g_at 642 (by decide +kernel) (by decide +kernel)
theorem q_643 : Cond.fieldLink RX4 24 "AnswerSums$Task" "finding" "LAnswerSums$Finding;" ∈ lw_g := lw_g_at 643 (by decide +kernel) (by decide +kernel)
theorem q_644 : Cond.fieldLink RX5 183 "AnswerSums$Task" "finding" "LAnswerSums$Finding;" ∈ lw_g := lw_g_at 644 (by decide +kernel) (by decide +kernel)
theorem q_645 : Cond.fieldLink RX4 38 "AnswerSums$Task" "sections" "I" ∈ lw_g := lw_g_at 645 (by decide +kernel) (by decide +kernel)
theorem q_646 : Cond.fieldLink RX5 83 "AnswerSums$Task" "sections" "I" ∈ lw_g := lw_g_at 646 (by decide +kernel) (by decide +kernel)
theorem q_647 : Cond.fieldLink RX0 52 "AnswerSums$Task" "sections" "I" ∈ lw_g := lw_g_at 647 (by decide +kernel) (by decide +kernel)
theorem q_648 : Cond.fieldLink RX4 30 "AnswerSums$Task" "phase" "J" ∈ lw_g := lw_g_at 648 (by decide +kernel) (by decide +kernel)
theorem q_649 : Cond.fieldLink RX3 82 "AnswerSums$Task" "phase" "J" ∈ lw_g := lw_g_at 649 (by decide +kernel) (by decide +kernel)
theorem q_650 : Cond.fieldLink RX5 102 "AnswerSums$Task" "phase" "J" ∈ lw_g := lw_g_at 650 (by decide +kernel) (by decide +kernel)
theorem q_671 : Cond.classLink RL 16 RX6 ∈ lw_g := lw_g_at 671 (by decide +kernel) (by decide +kernel)
theorem q_672 : Cond.instantiable RX6 22 ∈ lw_g := lw_g_at 672 (by decide +kernel) (by decide +kernel)
theorem q_673 : Cond.methodLink RL 18 yX6_init ∈ lw_g := lw_g_at 673 (by decide +kernel) (by decide +kernel)
theorem q_674 : Cond.instanceMethod yX6_init ∈ lw_g := lw_g_at 674 (by decide +kernel) (by decide +kernel)
theorem q_675 : Cond.code yX6_init cX6_init 1 none ∈ lw_g := lw_g_at 675 (by decide +kernel) (by decide +kernel)
theorem q_676 : Cond.methodLink RX6 1 Lib.objectInit ∈ lw_g := lw_g_at 676 (by decide +kernel) (by decide +kernel)
theorem q_677 : Cond.fieldLink RX6 7 "AnswerSumsModel" "own" "[J" ∈ lw_g := lw_g_at 677 (by decide +kernel) (by decide +kernel)
theorem q_678 : Cond.fieldLink RX6 13 "AnswerSumsModel" "period" "[J" ∈ lw_g := lw_g_at 678 (by decide +kernel) (by decide +kernel)
theorem q_679 : Cond.fieldLink RX6 16 "AnswerSumsModel" "rank" "[I" ∈ lw_g := lw_g_at 679 (by decide +kernel) (by decide +kernel)
theorem q_680 : Cond.fieldLink RX6 20 "AnswerSumsModel" "late" "[J" ∈ lw_g := lw_g_at 680 (by decide +kernel) (by decide +kernel)
theorem q_681 : Cond.fieldLink RX6 23 "AnswerSumsModel" "many" "[I" ∈ lw_g := lw_g_at 681 (by decide +kernel) (by decide +kernel)
theorem q_682 : Cond.fieldLink RX6 26 "AnswerSumsModel" "inner" "[J" ∈ lw_g := lw_g_at 682 (by decide +kernel) (by decide +kernel)
theorem q_683 : Cond.fieldLink RX6 29 "AnswerSumsModel" "spin" "[J" ∈ lw_g := lw_g_at 683 (by decide +kernel) (by decide +kernel)
theorem q_684 : Cond.fieldLink RX6 32 "AnswerSumsModel" "phase" "[J" ∈ lw_g := lw_g_at 684 (by decide +kernel) (by decide +kernel)
theorem q_685 : Cond.fieldLink RX6 35 "AnswerSumsModel" "held" "[I" ∈ lw_g := lw_g_at 685 (by decide +kernel) (by decide +kernel)
theorem q_686 : Cond.fieldLink RX6 38 "AnswerSumsModel" "resources" "[I" ∈ lw_g := lw_g_at 686 (by decide +kernel) (by decide +kernel)
theorem q_687 : Cond.fieldLink RX6 41 "AnswerSumsModel" "lengths" "[J" ∈ lw_g := lw_g_at 687 (by decide +kernel) (by decide +kernel)
theorem q_688 : Cond.fieldLink RX6 67 "AnswerSumsModel" "tasks" "I" ∈ lw_g := lw_g_at 688 (by decide +kernel) (by decide +kernel)
theorem q_689 : Cond.fieldLink RX6 44 "AnswerSumsModel" "shortOwn" "[J" ∈ lw_g := lw_g_at 689 (by decide +kernel) (by decide +kernel)
theorem q_690 : Cond.fieldLink RX6 47 "AnswerSumsModel" "shortPeriod" "[J" ∈ lw_g := lw_g_at 690 (by decide +kernel) (by decide +kernel)
theorem q_691 : Cond.fieldLink RX6 90 "AnswerSumsModel" "interrupts" "I" ∈ lw_g := lw_g_at 691 (by decide +kernel) (by decide +kernel)
theorem q_692 : Cond.fieldLink RX6 122 "AnswerSumsModel" "span" "J" ∈ lw_g := lw_g_at 692 (by decide +kernel) (by decide +kernel)
theorem q_693 : Cond.fieldLink RX6 126 "AnswerSumsModel" "turn" "I" ∈ lw_g := lw_g_at 693 (by decide +kernel) (by decide +kernel)
theorem q_694 : Cond.fieldLink RX6 50 "AnswerSumsModel" "from" "[J" ∈ lw_g := lw_g_at 694 (by decide +kernel) (by decide +kernel)
theorem q_695 : Cond.fieldLink RX6 53 "AnswerSumsModel" "done" "[J" ∈ lw_g := lw_g_at 695 (by decide +kernel) (by decide +kernel)
theorem q_696 : Cond.fieldLink RX6 56 "AnswerSumsModel" "left" "[J" ∈ lw_g := lw_g_at 696 (by decide +kernel) (by decide +kernel)
theorem q_697 : Cond.fieldLink RX6 59 "AnswerSumsModel" "begun" "[Z" ∈ lw_g := lw_g_at 697 (by decide +kernel) (by decide +kernel)
theorem q_698 : Cond.fieldLink RX6 63 "AnswerSumsModel" "thrown" "I" ∈ lw_g := lw_g_at 698 (by decide +kernel) (by decide +kernel)
theorem q_744 : Cond.arrayClass .boolean ∈ lw_g := lw_g_at 744 (by decide +kernel) (by decide +kernel)
theorem q_745 : Cond.methodLink RL 27 yX6_thrown ∈ lw_g := lw_g_at 745 (by decide +kernel) (by decide +kernel)
theorem q_746 : Cond.instanceMethod yX6_thrown ∈ lw_g := lw_g_at 746 (by decide +kernel) (by decide +kernel)
theorem q_747 : Cond.selects RX6 yX6_thrown yX6_thrown ∈ lw_g := lw_g_at 747 (by decide +kernel) (by decide +kernel)
theorem q_748 : Cond.code yX6_thrown cX6_thrown 1 (some .int) ∈ lw_g := lw_g_at 748 (by decide +kernel) (by decide +kernel)
theorem q_749 : Cond.methodLink RL 26 yX6_task ∈ lw_g := lw_g_at 749 (by decide +kernel) (by decide +kernel)
theorem q_750 : Cond.instanceMethod yX6_task ∈ lw_g := lw_g_at 750 (by decide +kernel) (by decide +kernel)
theorem q_751 : Cond.selects RX6 yX6_task yX6_task ∈ lw_g := lw_g_at 751 (by decide +kernel) (by decide +kernel)
theorem q_752 : Cond.code yX6_task cX6_task 6 (some .int) ∈ lw_g := lw_g_at 752 (by decide +kernel) (by decide +kernel)
theorem q_753 : Cond.constantLong RX6 70 (1000) ∈ lw_g := lw_g_at 753 (by decide +kernel) (by decide +kernel)
theorem q_754 : Cond.methodLink RX6 72 yX6_within ∈ lw_g := lw_g_at 754 (by decide +kernel) (by decide +kernel)
theorem q_755 : Cond.static yX6_within ∈ lw_g := lw_g_at 755 (by decide +kernel) (by decide +kernel)
theorem q_756 : Cond.code yX6_within cX6_within 6 (some .boolean) ∈ lw_g := lw_g_at 756 (by decide +kernel) (by decide +kernel)
theorem q_757 : Cond.constantLong RX6 76 (20000) ∈ lw_g := lw_g_at 757 (by decide +kernel) (by decide +kernel)
theorem q_758 : Cond.constantLong RX6 78 (255) ∈ lw_g := lw_g_at 758 (by decide +kernel) (by decide +kernel)
theorem q_759 : Cond.constantLong RX6 80 (-1) ∈ lw_g := lw_g_at 759 (by decide +kernel) (by decide +kernel)
theorem q_760 : Cond.methodLink RL 35 yX6_jitter ∈ lw_g := lw_g_at 760 (by decide +kernel) (by decide +kernel)
theorem q_761 : Cond.instanceMethod yX6_jitter ∈ lw_g := lw_g_at 761 (by decide +kernel) (by decide +kernel)
theorem q_762 : Cond.selects RX6 yX6_jitter yX6_jitter ∈ lw_g := lw_g_at 762 (by decide +kernel) (by decide +kernel)
theorem q_763 : Cond.code yX6_jitter cX6_jitter 4 (some .int) ∈ lw_g := lw_g_at 763 (by decide +kernel) (by decide +kernel)
theorem q_764 : Cond.methodLink RX6 82 yX6_isTask ∈ lw_g := lw_g_at 764 (by decide +kernel) (by decide +kernel)
theorem q_766 : Cond.instanceMethod yX6_isTask ∈ lw_g := lw_g_at 766 (by decide +kernel) (by decide +kernel)
theorem q_767 : Cond.code yX6_isTask cX6_isTask 2 (some .boolean) ∈ lw_g := lw_g_at 767 (by decide +kernel) (by decide +kernel)
theorem q_768 : Cond.methodLink RL 40 yX6_burst ∈ lw_g := lw_g_at 768 (by decide +kernel) (by decide +kernel)
theorem q_769 : Cond.instanceMethod yX6_burst ∈ lw_g := lw_g_at 769 (by decide +kernel) (by decide +kernel)
theorem q_770 : Cond.selects RX6 yX6_burst yX6_burst ∈ lw_g := lw_g_at 770 (by decide +kernel) (by decide +kernel)
theorem q_771 : Cond.code yX6_burst cX6_burst 5 (some .int) ∈ lw_g := lw_g_at 771 (by decide +kernel) (by decide +kernel)
theorem q_772 : Cond.constantLong RX6 86 (20) ∈ lw_g := lw_g_at 772 (by decide +kernel) (by decide +kernel)
theorem q_773 : Cond.methodLink RL 44 yX6_section ∈ lw_g := lw_g_at 773 (by decide +kernel) (by decide +kernel)
theorem q_774 : Cond.instanceMethod yX6_section ∈ lw_g := lw_g_at 774 (by decide +kernel) (by decide +kernel)
theorem q_775 : Cond.selects RX6 yX6_section yX6_section ∈ lw_g := lw_g_at 775 (by decide +kernel) (by decide +kernel)
theorem q_776 : Cond.code yX6_section cX6_section 5 (some .int) ∈ lw_g := lw_g_at 776 (by decide +kernel) (by decide +kernel)
theorem q_777 : Cond.constantLong RX6 88 (32) ∈ lw_g := lw_g_at 777 (by decide +kernel) (by decide +kernel)
theorem q_778 : Cond.methodLink RL 48 yX6_offset ∈ lw_g := lw_g_at 778 (by decide +kernel) (by decide +kernel)
theorem q_779 : Cond.instanceMethod yX6_offset ∈ lw_g := lw_g_at 779 (by decide +kernel) (by decide +kernel)
theorem q_780 : Cond.selects RX6 yX6_offset yX6_offset ∈ lw_g := lw_g_at 780 (by decide +kernel) (by decide +kernel)
theorem q_781 : Cond.code yX6_offset cX6_offset 4 (some .int) ∈ lw_g := lw_g_at 781 (by decide +kernel) (by decide +kernel)
theorem q_782 : Cond.methodLink RL 76 yX6_interrupt ∈ lw_g := lw_g_at 782 (by decide +kernel) (by decide +kernel)
theorem q_783 : Cond.instanceMethod yX6_interrupt ∈ lw_g := lw_g_at 783 (by decide +kernel) (by decide +kernel)
theorem q_784 : Cond.selects RX6 yX6_interrupt yX6_interrupt ∈ lw_g := lw_g_at 784 (by decide +kernel) (by decide +kernel)
theorem q_785 : Cond.code yX6_interrupt cX6_interrupt 5 (some .int) ∈ lw_g := lw_g_at 785 (by decide +kernel) (by decide +kernel)
theorem q_786 : Cond.methodLink RL 80 yX6_spin ∈ lw_g := lw_g_at 786 (by decide +kernel) (by decide +kernel)
theorem q_787 : Cond.instanceMethod yX6_spin ∈ lw_g := lw_g_at 787 (by decide +kernel) (by decide +kernel)
theorem q_788 : Cond.selects RX6 yX6_spin yX6_spin ∈ lw_g := lw_g_at 788 (by decide +kernel) (by decide +kernel)
theorem q_789 : Cond.code yX6_spin cX6_spin 4 (some .int) ∈ lw_g := lw_g_at 789 (by decide +kernel) (by decide +kernel)
theorem q_790 : Cond.methodLink RL 53 yX6_answer ∈ lw_g := lw_g_at 790 (by decide +kernel) (by decide +kernel)
theorem q_791 : Cond.instanceMethod yX6_answer ∈ lw_g := lw_g_at 791 (by decide +kernel) (by decide +kernel)
theorem q_792 : Cond.selects RX6 yX6_answer yX6_answer ∈ lw_g := lw_g_at 792 (by decide +kernel) (by decide +kernel)
theorem q_793 : Cond.code yX6_answer cX6_answer 2 (some .long) ∈ lw_g := lw_g_at 793 (by decide +kernel) (by decide +kernel)
theorem q_794 : Cond.methodLink RX6 129 yX6_search ∈ lw_g := lw_g_at 794 (by decide +kernel) (by decide +kernel)
theorem q_796 : Cond.instanceMethod yX6_search ∈ lw_g := lw_g_at 796 (by decide +kernel) (by decide +kernel)
theorem q_797 : Cond.code yX6_search cX6_search 11 (some .long) ∈ lw_g := lw_g_at 797 (by decide +kernel) (by decide +kernel)
theorem q_798 : Cond.methodLink RX6 109 yX6_blocking ∈ lw_g := lw_g_at 798 (by decide +kernel) (by decide +kernel)
theorem q_800 : Cond.instanceMethod yX6_blocking ∈ lw_g := lw_g_at 800 (by decide +kernel) (by decide +kernel)
theorem q_801 : Cond.code yX6_blocking cX6_blocking 7 (some .long) ∈ lw_g := lw_g_at 801 (by decide +kernel) (by decide +kernel)
theorem q_802 : Cond.methodLink RX6 97 yX6_reaches ∈ lw_g := lw_g_at 802 (by decide +kernel) (by decide +kernel)
theorem q_804 : Cond.instanceMethod yX6_reaches ∈ lw_g := lw_g_at 804 (by decide +kernel) (by decide +kernel)
theorem q_805 : Cond.code yX6_reaches cX6_reaches 6 (some .boolean) ∈ lw_g := lw_g_at 805 (by decide +kernel) (by decide +kernel)
theorem q_806 : Cond.methodLink RX6 112 yX6_need ∈ lw_g := lw_g_at 806 (by decide +kernel) (by decide +kernel)
theorem q_808 : Cond.instanceMethod yX6_need ∈ lw_g := lw_g_at 808 (by decide +kernel) (by decide +kernel)
theorem q_809 : Cond.code yX6_need cX6_need 10 (some .long) ∈ lw_g := lw_g_at 809 (by decide +kernel) (by decide +kernel)
theorem q_810 : Cond.methodLink RX6 101 yX6_cost ∈ lw_g := lw_g_at 810 (by decide +kernel) (by decide +kernel)
theorem q_812 : Cond.instanceMethod yX6_cost ∈ lw_g := lw_g_at 812 (by decide +kernel) (by decide +kernel)
theorem q_813 : Cond.code yX6_cost cX6_cost 2 (some .long) ∈ lw_g := lw_g_at 813 (by decide +kernel) (by decide +kernel)
theorem q_814 : Cond.methodLink RX6 105 yX6_comes ∈ lw_g := lw_g_at 814 (by decide +kernel) (by decide +kernel)
theorem q_816 : Cond.instanceMethod yX6_comes ∈ lw_g := lw_g_at 816 (by decide +kernel) (by decide +kernel)
theorem q_817 : Cond.code yX6_comes cX6_comes 8 (some .long) ∈ lw_g := lw_g_at 817 (by decide +kernel) (by decide +kernel)
theorem q_818 : Cond.methodLink RX6 93 yX6_upwards ∈ lw_g := lw_g_at 818 (by decide +kernel) (by decide +kernel)
theorem q_819 : Cond.static yX6_upwards ∈ lw_g := lw_g_at 819 (by decide +kernel) (by decide +kernel)
theorem q_820 : Cond.code yX6_upwards cX6_upwards 4 (some .long) ∈ lw_g := lw_g_at 820 (by decide +kernel) (by decide +kernel)
theorem q_821 : Cond.constantLong RX6 116 (40000) ∈ lw_g := lw_g_at 821 (by decide +kernel) (by decide +kernel)
theorem q_822 : Cond.methodLink RX6 118 yX6_later ∈ lw_g := lw_g_at 822 (by decide +kernel) (by decide +kernel)
theorem q_824 : Cond.instanceMethod yX6_later ∈ lw_g := lw_g_at 824 (by decide +kernel) (by decide +kernel)
theorem q_825 : Cond.code yX6_later cX6_later 7 (some .long) ∈ lw_g := lw_g_at 825 (by decide +kernel) (by decide +kernel)
theorem q_826 : Cond.constantLong RX6 132 (-2) ∈ lw_g := lw_g_at 826 (by decide +kernel) (by decide +kernel)
theorem q_827 : Cond.methodLink RL 58 yX6_reason ∈ lw_g := lw_g_at 827 (by decide +kernel) (by decide +kernel)
theorem q_828 : Cond.instanceMethod yX6_reason ∈ lw_g := lw_g_at 828 (by decide +kernel) (by decide +kernel)
theorem q_829 : Cond.selects RX6 yX6_reason yX6_reason ∈ lw_g := lw_g_at 829 (by decide +kernel) (by decide +kernel)
theorem q_830 : Cond.code yX6_reason cX6_reason 14 (some .int) ∈ lw_g := lw_g_at 830 (by decide +kernel) (by decide +kernel)
theorem q_831 : Cond.methodLink RL 62 yX6_longer ∈ lw_g := lw_g_at 831 (by decide +kernel) (by decide +kernel)
theorem q_832 : Cond.instanceMethod yX6_longer ∈ lw_g := lw_g_at 832 (by decide +kernel) (by decide +kernel)
theorem q_833 : Cond.selects RX6 yX6_longer yX6_longer ∈ lw_g := lw_g_at 833 (by decide +kernel) (by decide +kernel)
theorem q_834 : Cond.code yX6_longer cX6_longer 8 (some .long) ∈ lw_g := lw_g_at 834 (by decide +kernel) (by decide +kernel)
theorem q_835 : Cond.methodLink RX6 134 yX6_allAnswer ∈ lw_g := lw_g_at 835 (by decide +kernel) (by decide +kernel)
theorem q_837 : Cond.instanceMethod yX6_allAnswer ∈ lw_g := lw_g_at 837 (by decide +kernel) (by decide +kernel)
theorem q_838 : Cond.code yX6_allAnswer cX6_allAnswer 3 (some .boolean) ∈ lw_g := lw_g_at 838 (by decide +kernel) (by decide +kernel)
theorem q_839 : Cond.constantLong RX6 138 (1001) ∈ lw_g := lw_g_at 839 (by decide +kernel) (by decide +kernel)
theorem q_840 : Cond.constantLong RX6 140 (2) ∈ lw_g := lw_g_at 840 (by decide +kernel) (by decide +kernel)
theorem q_841 : Cond.methodLink RL 66 yX6_busy ∈ lw_g := lw_g_at 841 (by decide +kernel) (by decide +kernel)
theorem q_842 : Cond.instanceMethod yX6_busy ∈ lw_g := lw_g_at 842 (by decide +kernel) (by decide +kernel)
theorem q_843 : Cond.selects RX6 yX6_busy yX6_busy ∈ lw_g := lw_g_at 843 (by decide +kernel) (by decide +kernel)
theorem q_844 : Cond.code yX6_busy cX6_busy 9 (some .long) ∈ lw_g := lw_g_at 844 (by decide +kernel) (by decide +kernel)
theorem q_845 : Cond.methodLink RX6 144 yX6_load ∈ lw_g := lw_g_at 845 (by decide +kernel) (by decide +kernel)
theorem q_847 : Cond.instanceMethod yX6_load ∈ lw_g := lw_g_at 847 (by decide +kernel) (by decide +kernel)
theorem q_848 : Cond.code yX6_load cX6_load 4 (some .long) ∈ lw_g := lw_g_at 848 (by decide +kernel) (by decide +kernel)
theorem q_849 : Cond.constantLong RX6 142 (1000000) ∈ lw_g := lw_g_at 849 (by decide +kernel) (by decide +kernel)
theorem q_850 : Cond.methodLink RL 71 yX6_plain ∈ lw_g := lw_g_at 850 (by decide +kernel) (by decide +kernel)
theorem q_851 : Cond.instanceMethod yX6_plain ∈ lw_g := lw_g_at 851 (by decide +kernel) (by decide +kernel)
theorem q_852 : Cond.selects RX6 yX6_plain yX6_plain ∈ lw_g := lw_g_at 852 (by decide +kernel) (by decide +kernel)
theorem q_853 : Cond.code yX6_plain cX6_plain 18 (some .boolean) ∈ lw_g := lw_g_at 853 (by decide +kernel) (by decide +kernel)
theorem q_854 : Cond.methodLink RX6 148 yX6_common ∈ lw_g := lw_g_at 854 (by decide +kernel) (by decide +kernel)
theorem q_855 : Cond.static yX6_common ∈ lw_g := lw_g_at 855 (by decide +kernel) (by decide +kernel)
theorem q_856 : Cond.code yX6_common cX6_common 10 (some .long) ∈ lw_g := lw_g_at 856 (by decide +kernel) (by decide +kernel)
theorem q_857 : Cond.constantLong RX6 151 (60) ∈ lw_g := lw_g_at 857 (by decide +kernel) (by decide +kernel)
theorem q_858 : Cond.constantLong RX6 153 (3) ∈ lw_g := lw_g_at 858 (by decide +kernel) (by decide +kernel)
theorem q_859 : Cond.methodLink RX6 155 yX6_longest ∈ lw_g := lw_g_at 859 (by decide +kernel) (by decide +kernel)
theorem q_861 : Cond.instanceMethod yX6_longest ∈ lw_g := lw_g_at 861 (by decide +kernel) (by decide +kernel)
theorem q_862 : Cond.code yX6_longest cX6_longest 11 (some .long) ∈ lw_g := lw_g_at 862 (by decide +kernel) (by decide +kernel)
theorem q_863 : Cond.constantLong RL 19 (4294967295) ∈ lw_g := lw_g_at 863 (by decide +kernel) (by decide +kernel)
theorem q_864 : Cond.sameMethod RX2 RX2 "leastShare" "()J" ∈ lw_g := lw_g_at 864 (by decide +kernel) (by decide +kernel)
theorem q_865 : Cond.selects RX2 yX2_leastShare yX2_leastShare ∈ lw_g := lw_g_at 865 (by decide +kernel) (by decide +kernel)
theorem q_866 : Cond.selects RX4 yX2_leastShare yX2_leastShare ∈ lw_g := lw_g_at 866 (by decide +kernel) (by decide +kernel)
theorem q_867 : Cond.sameMethod RX2 RX2 "activationsIn" "(J)J" ∈ lw_g := lw_g_at 867 (by decide +kernel) (by decide +kernel)
theorem q_868 : Cond.selects RX2 yX2_activationsIn yX2_activationsIn ∈ lw_g := lw_g_at 868 (by decide +kernel) (by decide +kernel)
theorem q_869 : Cond.selects RX4 yX2_activationsIn yX2_activationsIn ∈ lw_g := lw_g_at 869 (by decide +kernel) (by decide +kernel)
theorem q_870 : Cond.sameMethod "java/lang/Throwable" "java/lang/Throwable" "fillInStackTrace" "(I)Ljava/lang/Throwable;" ∈ lw_g := lw_g_at 870 (by decide +kernel) (by decide +kernel)
theorem q_883 : Cond.sameMethod "[Ljava/lang/Object;" "java/lang/Object" "getClass" "()Ljava/lang/Class;" ∈ lw_g := lw_g_at 883 (by decide +kernel) (by decide +kernel)
theorem q_884 : Cond.selects "[Ljava/lang/Object;" ⟨"java/lang/Object", "getClass", "()Ljava/lang/Class;"⟩ ⟨"java/lang/Object", "getClass", "()Ljava/lang/Class;"⟩ ∈ lw_g := lw_g_at 884 (by decide +kernel) (by decide +kernel)
theorem qs_0 : Cond.selects RX5 yX5_forgetFindings yX5_forgetFindings ∈ lw_g := lw_g_s 0 (by decide +kernel) (by decide +kernel)
theorem qs_1 : Cond.selects RX5 yX5_findingOf yX5_findingOf ∈ lw_g := lw_g_s 1 (by decide +kernel) (by decide +kernel)
theorem qs_2 : Cond.selects RX0 yX0_leastShareAbove yX0_leastShareAbove ∈ lw_g := lw_g_s 2 (by decide +kernel) (by decide +kernel)
theorem qs_3 : Cond.selects RX0 yX0_longestSection yX0_longestSection ∈ lw_g := lw_g_s 3 (by decide +kernel) (by decide +kernel)
theorem qs_4 : Cond.selects RX0 yX0_ceilingOf yX0_ceilingOf ∈ lw_g := lw_g_s 4 (by decide +kernel) (by decide +kernel)
theorem qs_5 : Cond.selects RX0 yX0_spanFrom yX0_spanFrom ∈ lw_g := lw_g_s 5 (by decide +kernel) (by decide +kernel)
theorem qs_6 : Cond.selects RX0 yX0_takenAbove yX0_takenAbove ∈ lw_g := lw_g_s 6 (by decide +kernel) (by decide +kernel)
theorem qs_7 : Cond.selects RX5 yX5_rowOfItself yX5_rowOfItself ∈ lw_g := lw_g_s 7 (by decide +kernel) (by decide +kernel)
theorem qs_8 : Cond.selects RX5 yX5_rowOfPart yX5_rowOfPart ∈ lw_g := lw_g_s 8 (by decide +kernel) (by decide +kernel)
theorem qs_9 : Cond.selects RX5 yX5_allHaveAnswers yX5_allHaveAnswers ∈ lw_g := lw_g_s 9 (by decide +kernel) (by decide +kernel)
theorem qs_10 : Cond.selects RX3 yX3_take yX3_take ∈ lw_g := lw_g_s 10 (by decide +kernel) (by decide +kernel)
theorem qs_11 : Cond.selects RX3 yX3_start yX3_start ∈ lw_g := lw_g_s 11 (by decide +kernel) (by decide +kernel)
theorem qs_12 : Cond.selects RX3 yX3_run yX3_run ∈ lw_g := lw_g_s 12 (by decide +kernel) (by decide +kernel)
theorem qs_13 : Cond.selects RX3 yX3_hasMore yX3_hasMore ∈ lw_g := lw_g_s 13 (by decide +kernel) (by decide +kernel)
theorem qs_14 : Cond.selects RX3 yX3_chosenAt yX3_chosenAt ∈ lw_g := lw_g_s 14 (by decide +kernel) (by decide +kernel)
theorem qs_15 : Cond.selects RX3 yX3_goesBefore yX3_goesBefore ∈ lw_g := lw_g_s 15 (by decide +kernel) (by decide +kernel)
theorem qs_16 : Cond.selects RX3 yX3_work yX3_work ∈ lw_g := lw_g_s 16 (by decide +kernel) (by decide +kernel)
theorem qs_17 : Cond.selects RJx4a65c yJx4a65c_add_72be8 yJx4a65c_add_72be8 ∈ lw_g := lw_g_s 17 (by decide +kernel) (by decide +kernel)
theorem qs_18 : Cond.selects RJx4a65c yJx4a65c_grow_d5877 yJx4a65c_grow_d5877 ∈ lw_g := lw_g_s 18 (by decide +kernel) (by decide +kernel)
theorem qs_19 : Cond.selects RJx4a65c yJx4a65c_grow_92f84 yJx4a65c_grow_92f84 ∈ lw_g := lw_g_s 19 (by decide +kernel) (by decide +kernel)
theorem qs_20 : Cond.selects "java/lang/Throwable" ⟨"java/lang/Throwable", "fillInStackTrace", "(I)Ljava/lang/Throwable;"⟩ ⟨"java/lang/Throwable", "fillInStackTrace", "(I)Ljava/lang/Throwable;"⟩ ∈ lw_g := lw_g_s 20 (by decide +kernel) (by decide +kernel)
theorem qs_21 : Cond.selects RX6 yX6_isTask yX6_isTask ∈ lw_g := lw_g_s 21 (by decide +kernel) (by decide +kernel)
theorem qs_22 : Cond.selects RX6 yX6_search yX6_search ∈ lw_g := lw_g_s 22 (by decide +kernel) (by decide +kernel)
theorem qs_23 : Cond.selects RX6 yX6_blocking yX6_blocking ∈ lw_g := lw_g_s 23 (by decide +kernel) (by decide +kernel)
theorem qs_24 : Cond.selects RX6 yX6_reaches yX6_reaches ∈ lw_g := lw_g_s 24 (by decide +kernel) (by decide +kernel)
theorem qs_25 : Cond.selects RX6 yX6_need yX6_need ∈ lw_g := lw_g_s 25 (by decide +kernel) (by decide +kernel)
theorem qs_26 : Cond.selects RX6 yX6_cost yX6_cost ∈ lw_g := lw_g_s 26 (by decide +kernel) (by decide +kernel)
theorem qs_27 : Cond.selects RX6 yX6_comes yX6_comes ∈ lw_g := lw_g_s 27 (by decide +kernel) (by decide +kernel)
theorem qs_28 : Cond.selects RX6 yX6_later yX6_later ∈ lw_g := lw_g_s 28 (by decide +kernel) (by decide +kernel)
theorem qs_29 : Cond.selects RX6 yX6_allAnswer yX6_allAnswer ∈ lw_g := lw_g_s 29 (by decide +kernel) (by decide +kernel)
theorem qs_30 : Cond.selects RX6 yX6_load yX6_load ∈ lw_g := lw_g_s 30 (by decide +kernel) (by decide +kernel)
theorem qs_31 : Cond.selects RX6 yX6_longest yX6_longest ∈ lw_g := lw_g_s 31 (by decide +kernel) (by decide +kernel)
theorem in_J0 : ∀ w ∈ u_ws RJ0 TJ0 2, w ∈ lw_g := by decide +kernel
theorem in_Jx4a65c : ∀ w ∈ u_ws RJx4a65c TJx4a65c 3, w ∈ lw_g := by decide +kernel
theorem in_X0 : ∀ w ∈ u_ws RX0 TX0 3, w ∈ lw_g := by decide +kernel
theorem in_X1 : ∀ w ∈ u_ws RX1 TX1 4, w ∈ lw_g := by decide +kernel
theorem in_X2 : ∀ w ∈ u_ws RX2 TX2 7, w ∈ lw_g := by decide +kernel
theorem in_X3 : ∀ w ∈ u_ws RX3 TX3 10, w ∈ lw_g := by decide +kernel
theorem in_X4 : ∀ w ∈ u_ws RX4 TX4 13, w ∈ lw_g := by decide +kernel
theorem in_X5 : ∀ w ∈ u_ws RX5 TX5 3, w ∈ lw_g := by decide +kernel
theorem in_X6 : ∀ w ∈ u_ws RX6 TX6 22, w ∈ lw_g := by decide +kernel
theorem oi_X0_3 : Cond.methodLink RX0 3 Lib.objectInit ∈ lw_g := q_35
theorem nw_X0_9 : NW RX0 9 1 3 [.int (iZ 0), .null, .int (iZ 0)] := ⟨RJx4a65c, TJx4a65c, tyJx4a65c, in_Jx4a65c, tyJx4a65c_ok, q_36, q_37, q_5, rfl, fun j hj => by match j, hj with | 0, _ => rfl | 1, _ => rfl | 2, _ => rfl⟩
theorem ci_X0_11 : CwI RX0 11 yJx4a65c_init_da8c8 0 cJx4a65c_init_da8c8 1 := ⟨⟨q_38, q_5, q_40, by decide +kernel, by decide +kernel⟩, q_39, rfl⟩
theorem ff_X0_12_2 : FF RX0 12 2 0 (.object "java/util/ArrayList") := ⟨RX0, TX0, 3, "AnswerSums$Core", tyX0, in_X0, rfl, by decide, q_62, Or.inl rfl, tyX0_ok, nmX0, rfl, rfl, rfl⟩
theorem ff_X0_18_2 : FF RX0 18 2 1 (.object "java/util/ArrayList") := ⟨RX0, TX0, 3, "AnswerSums$Core", tyX0, in_X0, rfl, by decide, q_64, Or.inl rfl, tyX0_ok, nmX0, rfl, rfl, rfl⟩
theorem ff_X0_21_2 : FF RX0 21 2 2 (.array .int) := ⟨RX0, TX0, 3, "AnswerSums$Core", tyX0, in_X0, rfl, by decide, q_66, Or.inl rfl, tyX0_ok, nmX0, rfl, rfl, rfl⟩
theorem fl_X0_21_2 : FL RX0 21 2 2 := ⟨RX0, TX0, 3, "AnswerSums$Core", in_X0, rfl, by decide, q_66, Or.inl rfl⟩
theorem fl_X0_12_2 : FL RX0 12 2 0 := ⟨RX0, TX0, 3, "AnswerSums$Core", in_X0, rfl, by decide, q_62, Or.inl rfl⟩
theorem cv_X0_25 : CwV RX0 25 yJx4a65c_size_8abf5 RJx4a65c 0 cJx4a65c_size_8abf5 1 (some .int) := ⟨⟨q_156, q_5, q_159, by decide +kernel, by decide +kernel⟩, q_157, q_158⟩
theorem cv_X0_29 : CwV RX0 29 yJx4a65c_get_915e3 RJx4a65c 1 cJx4a65c_get_915e3 2 (some (.object "java/lang/Object")) := ⟨⟨q_160, q_5, q_163, by decide +kernel, by decide +kernel⟩, q_161, q_162⟩
theorem ck_X0_33 : Cond.classLink RX0 33 RX4 ∈ lw_g := q_174
theorem mx_X0_35 : Cond.methodLink RX0 35 Lib.Math.max.name ∈ lw_g ∧ Cond.static Lib.Math.max.name ∈ lw_g ∧ Cond.initialized "java/lang/Math" ∈ lw_g ∧ Cond.code Lib.Math.max.name Lib.Math.max.code 2 (some .int) ∈ lw_g := ⟨q_206, q_207, q_17, q_208⟩
theorem fl_X0_41_6 : FL RX0 41 6 7 := ⟨RX4, TX4, 13, "AnswerSums$Task", in_X4, rfl, by decide, q_637, Or.inl rfl⟩
theorem cv_X0_45 : CwV RX0 45 yX0_longestSection RX0 2 cX0_longestSection 6 (some .long) := ⟨⟨q_271, q_2, q_274, by decide +kernel, by decide +kernel⟩, q_273, qs_3⟩
theorem mx_X0_49 : Cond.methodLink RX0 49 Lib.MathLoose.max_long.x ∈ lw_g ∧ Cond.static Lib.MathLoose.max_long.x ∈ lw_g ∧ Cond.initialized "java/lang/Math" ∈ lw_g ∧ Cond.code Lib.MathLoose.max_long.x Lib.MathLoose.max_long.code 4 (some .long) ∈ lw_g := ⟨q_279, q_280, q_17, q_281⟩
theorem fl_X0_52_6 : FL RX0 52 6 11 := ⟨RX4, TX4, 13, "AnswerSums$Task", in_X4, rfl, by decide, q_647, Or.inl rfl⟩
theorem fl_X0_55_6 : FL RX0 55 6 8 := ⟨RX4, TX4, 13, "AnswerSums$Task", in_X4, rfl, by decide, q_640, Or.inl rfl⟩
theorem cv_X0_58 : CwV RX0 58 yX0_ceilingOf RX0 1 cX0_ceilingOf 2 (some .int) := ⟨⟨q_275, q_2, q_278, by decide +kernel, by decide +kernel⟩, q_277, qs_4⟩
theorem fl_X0_62_6 : FL RX0 62 6 9 := ⟨RX4, TX4, 13, "AnswerSums$Task", in_X4, rfl, by decide, q_642, Or.inl rfl⟩
theorem cv_X0_66 : CwV RX0 66 yX4_isAbove RX4 1 cX4_isAbove 2 (some .boolean) := ⟨⟨q_236, q_15, q_239, by decide +kernel, by decide +kernel⟩, q_237, q_238⟩
theorem fl_X0_18_2 : FL RX0 18 2 1 := ⟨RX0, TX0, 3, "AnswerSums$Core", in_X0, rfl, by decide, q_64, Or.inl rfl⟩
theorem ck_X0_70 : Cond.classLink RX0 70 RX2 ∈ lw_g := q_265
theorem cu_X0_72_6 : CwU RX0 72 ⟨"AnswerSums$Task", "activationsIn", "(J)J"⟩ yX2_activationsIn RX4 RX2 1 cX2_activationsIn 3 (some .long) := ⟨q_306, q_14, q_311, by decide +kernel, by decide +kernel, q_307, q_309, q_310, rfl⟩
theorem cu_X0_76_6 : CwU RX0 76 ⟨"AnswerSums$Task", "cost", "()J"⟩ yX2_cost RX4 RX2 0 cX2_cost 1 (some .long) := ⟨q_282, q_14, q_252, by decide +kernel, by decide +kernel, q_283, q_285, q_248, rfl⟩
theorem cv_X0_80 : CwV RX0 80 yX2_activationsIn RX2 1 cX2_activationsIn 3 (some .long) := ⟨⟨q_313, q_14, q_311, by decide +kernel, by decide +kernel⟩, q_310, q_868⟩
theorem cu_X0_80_6 : CwU RX0 80 yX2_activationsIn yX2_activationsIn RX4 RX2 1 cX2_activationsIn 3 (some .long) := ⟨q_313, q_14, q_311, by decide +kernel, by decide +kernel, q_867, q_869, q_310, rfl⟩
theorem cv_X0_81 : CwV RX0 81 yX2_cost RX2 0 cX2_cost 1 (some .long) := ⟨⟨q_314, q_14, q_252, by decide +kernel, by decide +kernel⟩, q_248, q_249⟩
theorem cu_X0_81_6 : CwU RX0 81 yX2_cost yX2_cost RX4 RX2 0 cX2_cost 1 (some .long) := ⟨q_314, q_14, q_252, by decide +kernel, by decide +kernel, q_250, q_251, q_248, rfl⟩
theorem cu_X0_82_6 : CwU RX0 82 ⟨"AnswerSums$Task", "leastShare", "()J"⟩ yX2_leastShare RX4 RX2 0 cX2_leastShare 1 (some .long) := ⟨q_240, q_14, q_245, by decide +kernel, by decide +kernel, q_241, q_243, q_244, rfl⟩
theorem cv_X0_85 : CwV RX0 85 yX2_leastShare RX2 0 cX2_leastShare 1 (some .long) := ⟨⟨q_266, q_14, q_245, by decide +kernel, by decide +kernel⟩, q_244, q_865⟩
theorem cu_X0_85_6 : CwU RX0 85 yX2_leastShare yX2_leastShare RX4 RX2 0 cX2_leastShare 1 (some .long) := ⟨q_266, q_14, q_245, by decide +kernel, by decide +kernel, q_864, q_866, q_244, rfl⟩
theorem cv_X0_86 : CwV RX0 86 yX1_start RX1 0 cX1_start 1 none := ⟨⟨q_227, q_7, q_230, by decide +kernel, by decide +kernel⟩, q_228, q_229⟩
theorem k_X0_91 : Cond.constantLong RX0 91 (1000000) ∈ lw_g := q_231
theorem cv_X0_93 : CwV RX0 93 yX0_leastShareAbove RX0 1 cX0_leastShareAbove 6 (some .long) := ⟨⟨q_232, q_2, q_235, by decide +kernel, by decide +kernel⟩, q_234, qs_2⟩
theorem cv_X0_97 : CwV RX0 97 yX0_blockingOf RX0 1 cX0_blockingOf 6 (some .long) := ⟨⟨q_267, q_2, q_270, by decide +kernel, by decide +kernel⟩, q_268, q_269⟩
theorem cu_X0_100_6 : CwU RX0 100 ⟨"AnswerSums$Task", "laterOf", "(I)J"⟩ yX2_laterOf RX4 RX2 1 cX2_laterOf 4 (some .long) := ⟨q_286, q_14, q_291, by decide +kernel, by decide +kernel, q_287, q_289, q_290, rfl⟩
theorem cn_X0_104 : CwN RX0 104 yX5_upwards "AnswerSums" 2 cX5_upwards 4 (some .long) := ⟨by decide +kernel, q_1, q_295, by decide +kernel, by decide +kernel⟩
theorem k_X0_107 : Cond.constantLong RX0 107 (40000) ∈ lw_g := q_296
theorem fl_X0_109_6 : FL RX0 109 6 1 := ⟨RX4, TX4, 13, "AnswerSums$Task", in_X4, rfl, by decide, q_458, Or.inr q_456⟩
theorem mx_X0_113 : Cond.methodLink RX0 113 Lib.MathLoose.min_long.x ∈ lw_g ∧ Cond.static Lib.MathLoose.min_long.x ∈ lw_g ∧ Cond.initialized "java/lang/Math" ∈ lw_g ∧ Cond.code Lib.MathLoose.min_long.x Lib.MathLoose.min_long.code 4 (some .long) ∈ lw_g := ⟨q_297, q_263, q_17, q_264⟩
theorem cv_X0_116 : CwV RX0 116 yX0_spanFrom RX0 4 cX0_spanFrom 14 (some .long) := ⟨⟨q_298, q_2, q_301, by decide +kernel, by decide +kernel⟩, q_300, qs_5⟩
theorem k_X0_120 : Cond.constantLong RX0 120 (-1) ∈ lw_g := q_315
theorem cv_X0_122 : CwV RX0 122 yX1_tell RX1 3 cX1_tell 6 none := ⟨⟨q_316, q_7, q_319, by decide +kernel, by decide +kernel⟩, q_317, q_318⟩
theorem cv_X0_126 : CwV RX0 126 yX0_takenAbove RX0 2 cX0_takenAbove 8 (some .long) := ⟨⟨q_302, q_2, q_305, by decide +kernel, by decide +kernel⟩, q_304, qs_6⟩
theorem cu_X0_130_6 : CwU RX0 130 ⟨"AnswerSums$Task", "load", "()J"⟩ yX2_load RX4 RX2 0 cX2_load 1 (some .long) := ⟨q_357, q_14, q_261, by decide +kernel, by decide +kernel, q_358, q_360, q_257, rfl⟩
theorem cv_X0_133 : CwV RX0 133 yX2_load RX2 0 cX2_load 1 (some .long) := ⟨⟨q_361, q_14, q_261, by decide +kernel, by decide +kernel⟩, q_257, q_258⟩
theorem cu_X0_133_6 : CwU RX0 133 yX2_load yX2_load RX4 RX2 0 cX2_load 1 (some .long) := ⟨q_361, q_14, q_261, by decide +kernel, by decide +kernel, q_259, q_260, q_257, rfl⟩
theorem cv_X0_134 : CwV RX0 134 yJx4a65c_isEmpty_aae02 RJx4a65c 0 cJx4a65c_isEmpty_aae02 1 (some .boolean) := ⟨⟨q_371, q_5, q_374, by decide +kernel, by decide +kernel⟩, q_372, q_373⟩
theorem cv_X0_138 : CwV RX0 138 yX0_wholeLoad RX0 0 cX0_wholeLoad 4 (some .long) := ⟨⟨q_375, q_2, q_356, by decide +kernel, by decide +kernel⟩, q_354, q_355⟩
theorem cv_X0_141 : CwV RX0 141 yX4_isPlain RX4 0 cX4_isPlain 1 (some .boolean) := ⟨⟨q_376, q_15, q_379, by decide +kernel, by decide +kernel⟩, q_377, q_378⟩
theorem k_X0_144 : Cond.constantLong RX0 144 (60) ∈ lw_g := q_380
theorem cv_X0_146 : CwV RX0 146 yX4_tellsPhase RX4 0 cX4_tellsPhase 1 (some .boolean) := ⟨⟨q_437, q_15, q_440, by decide +kernel, by decide +kernel⟩, q_438, q_439⟩
theorem oi_X1_3 : Cond.methodLink RX1 3 Lib.objectInit ∈ lw_g := q_119
theorem k_X1_9 : Cond.constantLong RX1 9 (-1) ∈ lw_g := q_120
theorem fp_X1_11_3 : FP RX1 11 3 1 (.long) := ⟨RX1, TX1, 4, "AnswerSums$Finding", tyX1, in_X1, rfl, by decide, q_123, Or.inl rfl, tyX1_ok, nmX1, rfl, rfl⟩
theorem fp_X1_17_3 : FP RX1 17 3 0 (.boolean) := ⟨RX1, TX1, 4, "AnswerSums$Finding", tyX1, in_X1, rfl, by decide, q_121, Or.inl rfl, tyX1_ok, nmX1, rfl, rfl⟩
theorem fp_X1_21_3 : FP RX1 21 3 2 (.int) := ⟨RX1, TX1, 4, "AnswerSums$Finding", tyX1, in_X1, rfl, by decide, q_125, Or.inl rfl, tyX1_ok, nmX1, rfl, rfl⟩
theorem fp_X1_25_3 : FP RX1 25 3 3 (.long) := ⟨RX1, TX1, 4, "AnswerSums$Finding", tyX1, in_X1, rfl, by decide, q_127, Or.inl rfl, tyX1_ok, nmX1, rfl, rfl⟩
theorem oi_X2_3 : Cond.methodLink RX2 3 Lib.objectInit ∈ lw_g := q_451
theorem fp_X2_9_4 : FP RX2 9 4 5 (.long) := ⟨RX2, TX2, 7, "AnswerSums$Part", tyX2, in_X2, rfl, by decide, q_471, Or.inl rfl, tyX2_ok, nmX2, rfl, rfl⟩
theorem fp_X2_9_6 : FP RX2 9 6 5 (.long) := ⟨RX4, TX4, 13, "AnswerSums$Part", tyX4, in_X4, rfl, by decide, q_471, Or.inl rfl, tyX4_ok, nmX4, rfl, rfl⟩
theorem fp_X2_15_4 : FP RX2 15 4 6 (.int) := ⟨RX2, TX2, 7, "AnswerSums$Part", tyX2, in_X2, rfl, by decide, q_474, Or.inl rfl, tyX2_ok, nmX2, rfl, rfl⟩
theorem fp_X2_15_6 : FP RX2 15 6 6 (.int) := ⟨RX4, TX4, 13, "AnswerSums$Part", tyX4, in_X4, rfl, by decide, q_474, Or.inl rfl, tyX4_ok, nmX4, rfl, rfl⟩
theorem ff_X2_19_4 : FF RX2 19 4 0 (.int) := ⟨RX2, TX2, 7, "AnswerSums$Part", tyX2, in_X2, rfl, by decide, q_452, Or.inl rfl, tyX2_ok, nmX2, rfl, rfl, rfl⟩
theorem ff_X2_19_6 : FF RX2 19 6 0 (.int) := ⟨RX4, TX4, 13, "AnswerSums$Part", tyX4, in_X4, rfl, by decide, q_452, Or.inl rfl, tyX4_ok, nmX4, rfl, rfl, rfl⟩
theorem fp_X2_22_4 : FP RX2 22 4 2 (.long) := ⟨RX2, TX2, 7, "AnswerSums$Part", tyX2, in_X2, rfl, by decide, q_459, Or.inl rfl, tyX2_ok, nmX2, rfl, rfl⟩
theorem fp_X2_22_6 : FP RX2 22 6 2 (.long) := ⟨RX4, TX4, 13, "AnswerSums$Part", tyX4, in_X4, rfl, by decide, q_459, Or.inl rfl, tyX4_ok, nmX4, rfl, rfl⟩
theorem ff_X2_25_4 : FF RX2 25 4 1 (.long) := ⟨RX2, TX2, 7, "AnswerSums$Part", tyX2, in_X2, rfl, by decide, q_454, Or.inl rfl, tyX2_ok, nmX2, rfl, rfl, rfl⟩
theorem ff_X2_25_6 : FF RX2 25 6 1 (.long) := ⟨RX4, TX4, 13, "AnswerSums$Part", tyX4, in_X4, rfl, by decide, q_454, Or.inl rfl, tyX4_ok, nmX4, rfl, rfl, rfl⟩
theorem fl_X2_22_4 : FL RX2 22 4 2 := ⟨RX2, TX2, 7, "AnswerSums$Part", in_X2, rfl, by decide, q_459, Or.inl rfl⟩
theorem fl_X2_22_6 : FL RX2 22 6 2 := ⟨RX4, TX4, 13, "AnswerSums$Part", in_X4, rfl, by decide, q_459, Or.inl rfl⟩
theorem fl_X2_28_4 : FL RX2 28 4 3 := ⟨RX2, TX2, 7, "AnswerSums$Part", in_X2, rfl, by decide, q_463, Or.inl rfl⟩
theorem fl_X2_28_6 : FL RX2 28 6 3 := ⟨RX4, TX4, 13, "AnswerSums$Part", in_X4, rfl, by decide, q_463, Or.inl rfl⟩
theorem fl_X2_9_4 : FL RX2 9 4 5 := ⟨RX2, TX2, 7, "AnswerSums$Part", in_X2, rfl, by decide, q_471, Or.inl rfl⟩
theorem fl_X2_9_6 : FL RX2 9 6 5 := ⟨RX4, TX4, 13, "AnswerSums$Part", in_X4, rfl, by decide, q_471, Or.inl rfl⟩
theorem cn_X2_31 : CwN RX2 31 yX5_upwards "AnswerSums" 2 cX5_upwards 4 (some .long) := ⟨by decide +kernel, q_1, q_295, by decide +kernel, by decide +kernel⟩
theorem fl_X2_15_4 : FL RX2 15 4 6 := ⟨RX2, TX2, 7, "AnswerSums$Part", in_X2, rfl, by decide, q_474, Or.inl rfl⟩
theorem fl_X2_15_6 : FL RX2 15 6 6 := ⟨RX4, TX4, 13, "AnswerSums$Part", in_X4, rfl, by decide, q_474, Or.inl rfl⟩
theorem fl_X2_35_4 : FL RX2 35 4 4 := ⟨RX2, TX2, 7, "AnswerSums$Part", in_X2, rfl, by decide, q_467, Or.inl rfl⟩
theorem fl_X2_35_6 : FL RX2 35 6 4 := ⟨RX4, TX4, 13, "AnswerSums$Part", in_X4, rfl, by decide, q_467, Or.inl rfl⟩
theorem fl_X2_25_4 : FL RX2 25 4 1 := ⟨RX2, TX2, 7, "AnswerSums$Part", in_X2, rfl, by decide, q_454, Or.inl rfl⟩
theorem fl_X2_25_6 : FL RX2 25 6 1 := ⟨RX4, TX4, 13, "AnswerSums$Part", in_X4, rfl, by decide, q_454, Or.inl rfl⟩
theorem mx_X2_38 : Cond.methodLink RX2 38 Lib.MathLoose.min_long.x ∈ lw_g ∧ Cond.static Lib.MathLoose.min_long.x ∈ lw_g ∧ Cond.initialized "java/lang/Math" ∈ lw_g ∧ Cond.code Lib.MathLoose.min_long.x Lib.MathLoose.min_long.code 4 (some .long) ∈ lw_g := ⟨q_262, q_263, q_17, q_264⟩
theorem cn_X2_43 : CwN RX2 43 yX5_whole "AnswerSums" 2 cX5_whole 4 (some .long) := ⟨by decide +kernel, q_1, q_255, by decide +kernel, by decide +kernel⟩
theorem mx_X2_46 : Cond.methodLink RX2 46 Lib.MathLoose.max_long.x ∈ lw_g ∧ Cond.static Lib.MathLoose.max_long.x ∈ lw_g ∧ Cond.initialized "java/lang/Math" ∈ lw_g ∧ Cond.code Lib.MathLoose.max_long.x Lib.MathLoose.max_long.code 4 (some .long) ∈ lw_g := ⟨q_292, q_280, q_17, q_281⟩
theorem k_X2_49 : Cond.constantLong RX2 49 (1000000) ∈ lw_g := q_246
theorem cv_X2_51 : CwV RX2 51 yX2_cost RX2 0 cX2_cost 1 (some .long) := ⟨⟨q_247, q_14, q_252, by decide +kernel, by decide +kernel⟩, q_248, q_249⟩
theorem cu_X2_51_6 : CwU RX2 51 yX2_cost yX2_cost RX4 RX2 0 cX2_cost 1 (some .long) := ⟨q_247, q_14, q_252, by decide +kernel, by decide +kernel, q_250, q_251, q_248, rfl⟩
theorem cv_X2_55 : CwV RX2 55 yX2_load RX2 0 cX2_load 1 (some .long) := ⟨⟨q_256, q_14, q_261, by decide +kernel, by decide +kernel⟩, q_257, q_258⟩
theorem cu_X2_55_6 : CwU RX2 55 yX2_load yX2_load RX4 RX2 0 cX2_load 1 (some .long) := ⟨q_256, q_14, q_261, by decide +kernel, by decide +kernel, q_259, q_260, q_257, rfl⟩
theorem oi_X3_3 : Cond.methodLink RX3 3 Lib.objectInit ∈ lw_g := q_80
theorem ff_X3_9_5 : FF RX3 9 5 3 (.array .long) := ⟨RX3, TX3, 10, "AnswerSums$Phases", tyX3, in_X3, rfl, by decide, q_85, Or.inl rfl, tyX3_ok, nmX3, rfl, rfl, rfl⟩
theorem ff_X3_15_5 : FF RX3 15 5 4 (.array .int) := ⟨RX3, TX3, 10, "AnswerSums$Phases", tyX3, in_X3, rfl, by decide, q_86, Or.inl rfl, tyX3_ok, nmX3, rfl, rfl, rfl⟩
theorem ff_X3_19_5 : FF RX3 19 5 5 (.array .long) := ⟨RX3, TX3, 10, "AnswerSums$Phases", tyX3, in_X3, rfl, by decide, q_87, Or.inl rfl, tyX3_ok, nmX3, rfl, rfl, rfl⟩
theorem ff_X3_22_5 : FF RX3 22 5 6 (.array .long) := ⟨RX3, TX3, 10, "AnswerSums$Phases", tyX3, in_X3, rfl, by decide, q_88, Or.inl rfl, tyX3_ok, nmX3, rfl, rfl, rfl⟩
theorem ff_X3_25_5 : FF RX3 25 5 7 (.array .long) := ⟨RX3, TX3, 10, "AnswerSums$Phases", tyX3, in_X3, rfl, by decide, q_89, Or.inl rfl, tyX3_ok, nmX3, rfl, rfl, rfl⟩
theorem ff_X3_28_5 : FF RX3 28 5 8 (.array .long) := ⟨RX3, TX3, 10, "AnswerSums$Phases", tyX3, in_X3, rfl, by decide, q_90, Or.inl rfl, tyX3_ok, nmX3, rfl, rfl, rfl⟩
theorem ff_X3_31_5 : FF RX3 31 5 9 (.array .long) := ⟨RX3, TX3, 10, "AnswerSums$Phases", tyX3, in_X3, rfl, by decide, q_91, Or.inl rfl, tyX3_ok, nmX3, rfl, rfl, rfl⟩
theorem fl_X3_34_5 : FL RX3 34 5 1 := ⟨RX3, TX3, 10, "AnswerSums$Phases", in_X3, rfl, by decide, q_83, Or.inl rfl⟩
theorem fl_X3_9_5 : FL RX3 9 5 3 := ⟨RX3, TX3, 10, "AnswerSums$Phases", in_X3, rfl, by decide, q_85, Or.inl rfl⟩
theorem k_X3_38 : Cond.constantLong RX3 38 (-1) ∈ lw_g := q_401
theorem cv_X3_40 : CwV RX3 40 yX3_take RX3 1 cX3_take 6 none := ⟨⟨q_385, q_6, q_388, by decide +kernel, by decide +kernel⟩, q_387, qs_10⟩
theorem fl_X3_25_5 : FL RX3 25 5 7 := ⟨RX3, TX3, 10, "AnswerSums$Phases", in_X3, rfl, by decide, q_89, Or.inl rfl⟩
theorem fl_X3_22_5 : FL RX3 22 5 6 := ⟨RX3, TX3, 10, "AnswerSums$Phases", in_X3, rfl, by decide, q_88, Or.inl rfl⟩
theorem k_X3_46 : Cond.constantLong RX3 46 (60) ∈ lw_g := q_402
theorem cv_X3_48 : CwV RX3 48 yX3_start RX3 1 cX3_start 8 none := ⟨⟨q_403, q_6, q_406, by decide +kernel, by decide +kernel⟩, q_405, qs_11⟩
theorem cv_X3_52 : CwV RX3 52 yX3_run RX3 0 cX3_run 3 none := ⟨⟨q_408, q_6, q_411, by decide +kernel, by decide +kernel⟩, q_410, qs_12⟩
theorem fp_X3_55_5 : FP RX3 55 5 0 (.boolean) := ⟨RX3, TX3, 10, "AnswerSums$Phases", tyX3, in_X3, rfl, by decide, q_81, Or.inl rfl, tyX3_ok, nmX3, rfl, rfl⟩
theorem cv_X3_59 : CwV RX3 59 yJx4a65c_size_8abf5 RJx4a65c 0 cJx4a65c_size_8abf5 1 (some .int) := ⟨⟨q_389, q_5, q_159, by decide +kernel, by decide +kernel⟩, q_157, q_158⟩
theorem mx_X3_65 : Cond.methodLink RX3 65 Lib.Math.min.name ∈ lw_g ∧ Cond.static Lib.Math.min.name ∈ lw_g ∧ Cond.initialized "java/lang/Math" ∈ lw_g ∧ Cond.code Lib.Math.min.name Lib.Math.min.code 2 (some .int) ∈ lw_g := ⟨q_390, q_391, q_17, q_392⟩
theorem fp_X3_34_5 : FP RX3 34 5 1 (.int) := ⟨RX3, TX3, 10, "AnswerSums$Phases", tyX3, in_X3, rfl, by decide, q_83, Or.inl rfl, tyX3_ok, nmX3, rfl, rfl⟩
theorem cv_X3_71 : CwV RX3 71 yJx4a65c_get_915e3 RJx4a65c 1 cJx4a65c_get_915e3 2 (some (.object "java/lang/Object")) := ⟨⟨q_393, q_5, q_163, by decide +kernel, by decide +kernel⟩, q_161, q_162⟩
theorem ck_X3_44 : Cond.classLink RX3 44 RX4 ∈ lw_g := q_394
theorem fl_X3_15_5 : FL RX3 15 5 4 := ⟨RX3, TX3, 10, "AnswerSums$Phases", in_X3, rfl, by decide, q_86, Or.inl rfl⟩
theorem fl_X3_75_6 : FL RX3 75 6 7 := ⟨RX4, TX4, 13, "AnswerSums$Task", in_X4, rfl, by decide, q_636, Or.inl rfl⟩
theorem fl_X3_19_5 : FL RX3 19 5 5 := ⟨RX3, TX3, 10, "AnswerSums$Phases", in_X3, rfl, by decide, q_87, Or.inl rfl⟩
theorem fl_X3_77_6 : FL RX3 77 6 2 := ⟨RX4, TX4, 13, "AnswerSums$Task", in_X4, rfl, by decide, q_460, Or.inr q_461⟩
theorem fl_X3_80_6 : FL RX3 80 6 1 := ⟨RX4, TX4, 13, "AnswerSums$Task", in_X4, rfl, by decide, q_455, Or.inr q_456⟩
theorem fl_X3_82_6 : FL RX3 82 6 12 := ⟨RX4, TX4, 13, "AnswerSums$Task", in_X4, rfl, by decide, q_649, Or.inl rfl⟩
theorem cs_X3_85 : CwS RX3 85 yX3_leastCommonMultiple 2 cX3_leastCommonMultiple 7 (some .long) := ⟨⟨q_395, q_6, q_397, by decide +kernel, by decide +kernel⟩, q_396⟩
theorem k_X3_89 : Cond.constantLong RX3 89 (3) ∈ lw_g := q_400
theorem fp_X3_91_5 : FP RX3 91 5 2 (.int) := ⟨RX3, TX3, 10, "AnswerSums$Phases", tyX3, in_X3, rfl, by decide, q_84, Or.inl rfl, tyX3_ok, nmX3, rfl, rfl⟩
theorem k_X3_94 : Cond.constantLong RX3 94 (20000) ∈ lw_g := q_398
theorem mx_X3_96 : Cond.methodLink RX3 96 Lib.MathLoose.max_long.x ∈ lw_g ∧ Cond.static Lib.MathLoose.max_long.x ∈ lw_g ∧ Cond.initialized "java/lang/Math" ∈ lw_g ∧ Cond.code Lib.MathLoose.max_long.x Lib.MathLoose.max_long.code 4 (some .long) ∈ lw_g := ⟨q_399, q_280, q_17, q_281⟩
theorem cn_X3_99 : CwN RX3 99 yX5_whole "AnswerSums" 2 cX5_whole 4 (some .long) := ⟨by decide +kernel, q_1, q_255, by decide +kernel, by decide +kernel⟩
theorem fl_X3_28_5 : FL RX3 28 5 8 := ⟨RX3, TX3, 10, "AnswerSums$Phases", in_X3, rfl, by decide, q_90, Or.inl rfl⟩
theorem fl_X3_31_5 : FL RX3 31 5 9 := ⟨RX3, TX3, 10, "AnswerSums$Phases", in_X3, rfl, by decide, q_91, Or.inl rfl⟩
theorem k_X3_102 : Cond.constant RX3 102 (1000000) ∈ lw_g := q_412
theorem cv_X3_103 : CwV RX3 103 yX3_hasMore RX3 0 cX3_hasMore 2 (some .boolean) := ⟨⟨q_413, q_6, q_416, by decide +kernel, by decide +kernel⟩, q_415, qs_13⟩
theorem cv_X3_107 : CwV RX3 107 yX3_chosenAt RX3 1 cX3_chosenAt 4 (some .int) := ⟨⟨q_417, q_6, q_420, by decide +kernel, by decide +kernel⟩, q_419, qs_14⟩
theorem cv_X3_111 : CwV RX3 111 yX3_work RX3 2 cX3_work 3 none := ⟨⟨q_425, q_6, q_428, by decide +kernel, by decide +kernel⟩, q_427, qs_16⟩
theorem fl_X3_91_5 : FL RX3 91 5 2 := ⟨RX3, TX3, 10, "AnswerSums$Phases", in_X3, rfl, by decide, q_84, Or.inl rfl⟩
theorem cv_X3_115 : CwV RX3 115 yX3_goesBefore RX3 2 cX3_goesBefore 3 (some .boolean) := ⟨⟨q_421, q_6, q_424, by decide +kernel, by decide +kernel⟩, q_423, qs_15⟩
theorem ci_X4_3 : CwI RX4 3 yX2_init 3 cX2_init 6 := ⟨⟨q_632, q_14, q_450, by decide +kernel, by decide +kernel⟩, q_449, rfl⟩
theorem ff_X4_9_6 : FF RX4 9 6 8 (.array .int) := ⟨RX4, TX4, 13, "AnswerSums$Task", tyX4, in_X4, rfl, by decide, q_639, Or.inl rfl, tyX4_ok, nmX4, rfl, rfl, rfl⟩
theorem ff_X4_15_6 : FF RX4 15 6 9 (.array .long) := ⟨RX4, TX4, 13, "AnswerSums$Task", tyX4, in_X4, rfl, by decide, q_641, Or.inl rfl, tyX4_ok, nmX4, rfl, rfl, rfl⟩
theorem nw_X4_19 : NW RX4 19 3 4 [.int (iZ 0), .long (lZ 0), .int (iZ 0), .long (lZ 0)] := ⟨RX1, TX1, tyX1, in_X1, tyX1_ok, q_633, q_115, q_7, rfl, fun j hj => by match j, hj with | 0, _ => rfl | 1, _ => rfl | 2, _ => rfl | 3, _ => rfl⟩
theorem cn_X4_21 : CwN RX4 21 yX1_init "AnswerSums" 0 cX1_init 1 none := ⟨by decide +kernel, q_7, q_118, by decide +kernel, by decide +kernel⟩
theorem ff_X4_24_6 : FF RX4 24 6 10 (.object "AnswerSums$Finding") := ⟨RX4, TX4, 13, "AnswerSums$Task", tyX4, in_X4, rfl, by decide, q_643, Or.inl rfl, tyX4_ok, nmX4, rfl, rfl, rfl⟩
theorem k_X4_28 : Cond.constantLong RX4 28 (-1) ∈ lw_g := q_441
theorem fp_X4_30_6 : FP RX4 30 6 12 (.long) := ⟨RX4, TX4, 13, "AnswerSums$Task", tyX4, in_X4, rfl, by decide, q_648, Or.inl rfl, tyX4_ok, nmX4, rfl, rfl⟩
theorem ff_X4_34_6 : FF RX4 34 6 7 (.int) := ⟨RX4, TX4, 13, "AnswerSums$Task", tyX4, in_X4, rfl, by decide, q_635, Or.inl rfl, tyX4_ok, nmX4, rfl, rfl, rfl⟩
theorem fl_X4_38_6 : FL RX4 38 6 11 := ⟨RX4, TX4, 13, "AnswerSums$Task", in_X4, rfl, by decide, q_645, Or.inl rfl⟩
theorem fl_X4_9_6 : FL RX4 9 6 8 := ⟨RX4, TX4, 13, "AnswerSums$Task", in_X4, rfl, by decide, q_639, Or.inl rfl⟩
theorem fl_X4_15_6 : FL RX4 15 6 9 := ⟨RX4, TX4, 13, "AnswerSums$Task", in_X4, rfl, by decide, q_641, Or.inl rfl⟩
theorem fp_X4_38_6 : FP RX4 38 6 11 (.int) := ⟨RX4, TX4, 13, "AnswerSums$Task", tyX4, in_X4, rfl, by decide, q_645, Or.inl rfl, tyX4_ok, nmX4, rfl, rfl⟩
theorem fl_X4_34_6 : FL RX4 34 6 7 := ⟨RX4, TX4, 13, "AnswerSums$Task", in_X4, rfl, by decide, q_635, Or.inl rfl⟩
theorem fl_X4_41_6 : FL RX4 41 6 4 := ⟨RX4, TX4, 13, "AnswerSums$Task", in_X4, rfl, by decide, q_470, Or.inr q_469⟩
theorem fl_X4_44_6 : FL RX4 44 6 6 := ⟨RX4, TX4, 13, "AnswerSums$Task", in_X4, rfl, by decide, q_475, Or.inr q_476⟩
theorem fl_X4_47_6 : FL RX4 47 6 3 := ⟨RX4, TX4, 13, "AnswerSums$Task", in_X4, rfl, by decide, q_464, Or.inr q_465⟩
theorem fl_X4_30_6 : FL RX4 30 6 12 := ⟨RX4, TX4, 13, "AnswerSums$Task", in_X4, rfl, by decide, q_648, Or.inl rfl⟩
theorem oi_X5_1 : Cond.methodLink RX5 1 Lib.objectInit ∈ lw_g := q_27
theorem nw_X5_7 : NW RX5 7 2 3 [.null, .null, .null] := ⟨RX0, TX0, tyX0, in_X0, tyX0_ok, q_30, q_31, q_2, rfl, fun j hj => by match j, hj with | 0, _ => rfl | 1, _ => rfl | 2, _ => rfl⟩
theorem ci_X5_9 : CwI RX5 9 yX0_init 0 cX0_init 2 := ⟨⟨q_32, q_2, q_34, by decide +kernel, by decide +kernel⟩, q_33, rfl⟩
theorem ff_X5_10_7 : FF RX5 10 7 0 (.object "AnswerSums$Core") := ⟨RX5, TX5, 3, "AnswerSums", tyX5, in_X5, rfl, by decide, q_138, Or.inl rfl, tyX5_ok, nmX5, rfl, rfl, rfl⟩
theorem nw_X5_16 : NW RX5 16 5 10 [.int (iZ 0), .int (iZ 0), .int (iZ 0), .null, .null, .null, .null, .null, .null, .null] := ⟨RX3, TX3, tyX3, in_X3, tyX3_ok, q_75, q_76, q_6, rfl, fun j hj => by match j, hj with | 0, _ => rfl | 1, _ => rfl | 2, _ => rfl | 3, _ => rfl | 4, _ => rfl | 5, _ => rfl | 6, _ => rfl | 7, _ => rfl | 8, _ => rfl | 9, _ => rfl⟩
theorem cn_X5_18 : CwN RX5 18 yX3_init "AnswerSums" 0 cX3_init 1 none := ⟨by decide +kernel, q_6, q_79, by decide +kernel, by decide +kernel⟩
theorem ff_X5_19_7 : FF RX5 19 7 1 (.object "AnswerSums$Phases") := ⟨RX5, TX5, 3, "AnswerSums", tyX5, in_X5, rfl, by decide, q_139, Or.inl rfl, tyX5_ok, nmX5, rfl, rfl, rfl⟩
theorem nw_X5_23 : NW RX5 23 3 4 [.int (iZ 0), .long (lZ 0), .int (iZ 0), .long (lZ 0)] := ⟨RX1, TX1, tyX1, in_X1, tyX1_ok, q_114, q_115, q_7, rfl, fun j hj => by match j, hj with | 0, _ => rfl | 1, _ => rfl | 2, _ => rfl | 3, _ => rfl⟩
theorem cn_X5_25 : CwN RX5 25 yX1_init "AnswerSums" 0 cX1_init 1 none := ⟨by decide +kernel, q_7, q_118, by decide +kernel, by decide +kernel⟩
theorem ff_X5_26_7 : FF RX5 26 7 2 (.object "AnswerSums$Finding") := ⟨RX5, TX5, 3, "AnswerSums", tyX5, in_X5, rfl, by decide, q_140, Or.inl rfl, tyX5_ok, nmX5, rfl, rfl, rfl⟩
theorem cs_X5_30 : CwS RX5 30 yX5_isLength 1 cX5_isLength 2 (some .boolean) := ⟨⟨q_194, q_1, q_196, by decide +kernel, by decide +kernel⟩, q_195⟩
theorem k_X5_34 : Cond.constantLong RX5 34 (20000) ∈ lw_g := q_175
theorem fl_X5_10_7 : FL RX5 10 7 0 := ⟨RX5, TX5, 3, "AnswerSums", in_X5, rfl, by decide, q_138, Or.inl rfl⟩
theorem fl_X5_36_2 : FL RX5 36 2 0 := ⟨RX0, TX0, 3, "AnswerSums$Core", in_X0, rfl, by decide, q_63, Or.inl rfl⟩
theorem cv_X5_40 : CwV RX5 40 yJx4a65c_size_8abf5 RJx4a65c 0 cJx4a65c_size_8abf5 1 (some .int) := ⟨⟨q_180, q_5, q_159, by decide +kernel, by decide +kernel⟩, q_157, q_158⟩
theorem nw_X5_53 : NW RX5 53 6 13 [.int (iZ 0), .long (lZ 0), .long (lZ 0), .long (lZ 0), .long (lZ 0), .long (lZ 0), .int (iZ 0), .int (iZ 0), .null, .null, .null, .int (iZ 0), .long (lZ 0)] := ⟨RX4, TX4, tyX4, in_X4, tyX4_ok, q_182, q_628, q_15, rfl, fun j hj => by match j, hj with | 0, _ => rfl | 1, _ => rfl | 2, _ => rfl | 3, _ => rfl | 4, _ => rfl | 5, _ => rfl | 6, _ => rfl | 7, _ => rfl | 8, _ => rfl | 9, _ => rfl | 10, _ => rfl | 11, _ => rfl | 12, _ => rfl⟩
theorem ci_X5_55 : CwI RX5 55 yX4_init 4 cX4_init 7 := ⟨⟨q_629, q_15, q_631, by decide +kernel, by decide +kernel⟩, q_630, rfl⟩
theorem cv_X5_58 : CwV RX5 58 yJx4a65c_add_9ea2d RJx4a65c 1 cJx4a65c_add_9ea2d 2 (some .boolean) := ⟨⟨q_493, q_5, q_496, by decide +kernel, by decide +kernel⟩, q_494, q_495⟩
theorem cv_X5_62 : CwV RX5 62 yX5_forgetFindings RX5 0 cX5_forgetFindings 2 none := ⟨⟨q_176, q_1, q_179, by decide +kernel, by decide +kernel⟩, q_178, qs_0⟩
theorem cv_X5_65 : CwV RX5 65 yX0_taskOf RX0 1 cX0_taskOf 2 (some (.object "AnswerSums$Task")) := ⟨⟨q_152, q_2, q_155, by decide +kernel, by decide +kernel⟩, q_153, q_154⟩
theorem fp_X5_69_6 : FP RX5 69 6 4 (.long) := ⟨RX4, TX4, 13, "AnswerSums$Task", tyX4, in_X4, rfl, by decide, q_468, Or.inr q_469, tyX4_ok, nmX4, rfl, rfl⟩
theorem cs_X5_73 : CwS RX5 73 yX5_isPeriod 1 cX5_isPeriod 2 (some .boolean) := ⟨⟨q_187, q_1, q_189, by decide +kernel, by decide +kernel⟩, q_188⟩
theorem fp_X5_76_6 : FP RX5 76 6 6 (.int) := ⟨RX4, TX4, 13, "AnswerSums$Task", tyX4, in_X4, rfl, by decide, q_477, Or.inr q_476, tyX4_ok, nmX4, rfl, rfl⟩
theorem fp_X5_80_6 : FP RX5 80 6 5 (.long) := ⟨RX4, TX4, 13, "AnswerSums$Task", tyX4, in_X4, rfl, by decide, q_472, Or.inr q_473, tyX4_ok, nmX4, rfl, rfl⟩
theorem fl_X5_83_6 : FL RX5 83 6 11 := ⟨RX4, TX4, 13, "AnswerSums$Task", in_X4, rfl, by decide, q_646, Or.inl rfl⟩
theorem cv_X5_86 : CwV RX5 86 yX4_addSection RX4 2 cX4_addSection 4 none := ⟨⟨q_198, q_15, q_201, by decide +kernel, by decide +kernel⟩, q_199, q_200⟩
theorem fl_X5_90_6 : FL RX5 90 6 7 := ⟨RX4, TX4, 13, "AnswerSums$Task", in_X4, rfl, by decide, q_638, Or.inl rfl⟩
theorem cv_X5_93 : CwV RX5 93 yX0_raiseCeiling RX0 2 cX0_raiseCeiling 3 none := ⟨⟨q_202, q_2, q_205, by decide +kernel, by decide +kernel⟩, q_203, q_204⟩
theorem k_X5_97 : Cond.constantLong RX5 97 (-1) ∈ lw_g := q_213
theorem fl_X5_99_6 : FL RX5 99 6 1 := ⟨RX4, TX4, 13, "AnswerSums$Task", in_X4, rfl, by decide, q_457, Or.inr q_456⟩
theorem fp_X5_102_6 : FP RX5 102 6 12 (.long) := ⟨RX4, TX4, 13, "AnswerSums$Task", tyX4, in_X4, rfl, by decide, q_650, Or.inl rfl, tyX4_ok, nmX4, rfl, rfl⟩
theorem k_X5_105 : Cond.constantLong RX5 105 (-2) ∈ lw_g := q_218
theorem cv_X5_107 : CwV RX5 107 yX5_findingOf RX5 1 cX5_findingOf 2 (some (.object "AnswerSums$Finding")) := ⟨⟨q_219, q_1, q_222, by decide +kernel, by decide +kernel⟩, q_221, qs_1⟩
theorem fl_X5_111_3 : FL RX5 111 3 1 := ⟨RX1, TX1, 4, "AnswerSums$Finding", in_X1, rfl, by decide, q_124, Or.inl rfl⟩
theorem cv_X5_114 : CwV RX5 114 yX0_partAbove RX0 2 cX0_partAbove 6 (some (.object "AnswerSums$Part")) := ⟨⟨q_324, q_2, q_327, by decide +kernel, by decide +kernel⟩, q_325, q_326⟩
theorem cv_X5_118 : CwV RX5 118 yX5_rowOfItself RX5 3 cX5_rowOfItself 4 (some .long) := ⟨⟨q_328, q_1, q_331, by decide +kernel, by decide +kernel⟩, q_330, qs_7⟩
theorem fl_X5_122_3 : FL RX5 122 3 3 := ⟨RX1, TX1, 4, "AnswerSums$Finding", in_X1, rfl, by decide, q_128, Or.inl rfl⟩
theorem cv_X5_125 : CwV RX5 125 yX5_rowOfPart RX5 3 cX5_rowOfPart 7 (some .long) := ⟨⟨q_334, q_1, q_337, by decide +kernel, by decide +kernel⟩, q_336, qs_8⟩
theorem cv_X5_129 : CwV RX5 129 yX5_allHaveAnswers RX5 0 cX5_allHaveAnswers 2 (some .boolean) := ⟨⟨q_344, q_1, q_347, by decide +kernel, by decide +kernel⟩, q_346, qs_9⟩
theorem fl_X5_133_6 : FL RX5 133 6 2 := ⟨RX4, TX4, 13, "AnswerSums$Task", in_X4, rfl, by decide, q_462, Or.inr q_461⟩
theorem k_X5_136 : Cond.constantLong RX5 136 (1000) ∈ lw_g := q_197
theorem k_X5_138 : Cond.constantLong RX5 138 (2) ∈ lw_g := q_348
theorem fp_X5_133_6 : FP RX5 133 6 2 (.long) := ⟨RX4, TX4, 13, "AnswerSums$Task", tyX4, in_X4, rfl, by decide, q_462, Or.inr q_461, tyX4_ok, nmX4, rfl, rfl⟩
theorem cv_X5_140 : CwV RX5 140 yX0_wholeLoad RX0 0 cX0_wholeLoad 4 (some .long) := ⟨⟨q_353, q_2, q_356, by decide +kernel, by decide +kernel⟩, q_354, q_355⟩
theorem cv_X5_144 : CwV RX5 144 yJx4a65c_get_915e3 RJx4a65c 1 cJx4a65c_get_915e3 2 (some (.object "java/lang/Object")) := ⟨⟨q_181, q_5, q_163, by decide +kernel, by decide +kernel⟩, q_161, q_162⟩
theorem ck_X5_53 : Cond.classLink RX5 53 RX4 ∈ lw_g := q_182
theorem mx_X5_148 : Cond.methodLink RX5 148 Lib.MathLoose.max_long.x ∈ lw_g ∧ Cond.static Lib.MathLoose.max_long.x ∈ lw_g ∧ Cond.initialized "java/lang/Math" ∈ lw_g ∧ Cond.code Lib.MathLoose.max_long.x Lib.MathLoose.max_long.code 4 (some .long) ∈ lw_g := ⟨q_362, q_280, q_17, q_281⟩
theorem cv_X5_154 : CwV RX5 154 yX0_mayBeRun RX0 0 cX0_mayBeRun 5 (some .boolean) := ⟨⟨q_367, q_2, q_370, by decide +kernel, by decide +kernel⟩, q_368, q_369⟩
theorem fl_X5_19_7 : FL RX5 19 7 1 := ⟨RX5, TX5, 3, "AnswerSums", in_X5, rfl, by decide, q_139, Or.inl rfl⟩
theorem fl_X5_157_5 : FL RX5 157 5 0 := ⟨RX3, TX3, 10, "AnswerSums$Phases", in_X3, rfl, by decide, q_82, Or.inl rfl⟩
theorem cv_X5_161 : CwV RX5 161 yX3_runAll RX3 1 cX3_runAll 6 none := ⟨⟨q_381, q_6, q_384, by decide +kernel, by decide +kernel⟩, q_382, q_383⟩
theorem cv_X5_165 : CwV RX5 165 yX3_longestOf RX3 1 cX3_longestOf 2 (some .long) := ⟨⟨q_429, q_6, q_432, by decide +kernel, by decide +kernel⟩, q_430, q_431⟩
theorem cv_X5_169 : CwV RX5 169 yX0_tellsAnyPhase RX0 0 cX0_tellsAnyPhase 2 (some .boolean) := ⟨⟨q_433, q_2, q_436, by decide +kernel, by decide +kernel⟩, q_434, q_435⟩
theorem fl_X5_172_2 : FL RX5 172 2 1 := ⟨RX0, TX0, 3, "AnswerSums$Core", in_X0, rfl, by decide, q_65, Or.inl rfl⟩
theorem nw_X5_175 : NW RX5 175 4 7 [.int (iZ 0), .long (lZ 0), .long (lZ 0), .long (lZ 0), .long (lZ 0), .long (lZ 0), .int (iZ 0)] := ⟨RX2, TX2, tyX2, in_X2, tyX2_ok, q_446, q_447, q_14, rfl, fun j hj => by match j, hj with | 0, _ => rfl | 1, _ => rfl | 2, _ => rfl | 3, _ => rfl | 4, _ => rfl | 5, _ => rfl | 6, _ => rfl⟩
theorem ci_X5_177 : CwI RX5 177 yX2_init 3 cX2_init 6 := ⟨⟨q_448, q_14, q_450, by decide +kernel, by decide +kernel⟩, q_449, rfl⟩
theorem fp_X5_180_6 : FP RX5 180 6 3 (.long) := ⟨RX4, TX4, 13, "AnswerSums$Task", tyX4, in_X4, rfl, by decide, q_466, Or.inr q_465, tyX4_ok, nmX4, rfl, rfl⟩
theorem fl_X5_183_6 : FL RX5 183 6 10 := ⟨RX4, TX4, 13, "AnswerSums$Task", in_X4, rfl, by decide, q_644, Or.inl rfl⟩
theorem fp_X5_186_3 : FP RX5 186 3 0 (.boolean) := ⟨RX1, TX1, 4, "AnswerSums$Finding", tyX1, in_X1, rfl, by decide, q_122, Or.inl rfl, tyX1_ok, nmX1, rfl, rfl⟩
theorem fp_X5_157_5 : FP RX5 157 5 0 (.boolean) := ⟨RX3, TX3, 10, "AnswerSums$Phases", tyX3, in_X3, rfl, by decide, q_82, Or.inl rfl, tyX3_ok, nmX3, rfl, rfl⟩
theorem fl_X5_186_3 : FL RX5 186 3 0 := ⟨RX1, TX1, 4, "AnswerSums$Finding", in_X1, rfl, by decide, q_122, Or.inl rfl⟩
theorem cv_X5_187 : CwV RX5 187 yX0_find RX0 2 cX0_find 23 none := ⟨⟨q_223, q_2, q_226, by decide +kernel, by decide +kernel⟩, q_224, q_225⟩
theorem fl_X5_191_3 : FL RX5 191 3 2 := ⟨RX1, TX1, 4, "AnswerSums$Finding", in_X1, rfl, by decide, q_126, Or.inl rfl⟩
theorem cu_X5_194_6 : CwU RX5 194 ⟨"AnswerSums$Task", "cost", "()J"⟩ yX2_cost RX4 RX2 0 cX2_cost 1 (some .long) := ⟨q_332, q_14, q_252, by decide +kernel, by decide +kernel, q_283, q_285, q_248, rfl⟩
theorem cv_X5_197 : CwV RX5 197 yX0_blockingOf RX0 1 cX0_blockingOf 6 (some .long) := ⟨⟨q_333, q_2, q_270, by decide +kernel, by decide +kernel⟩, q_268, q_269⟩
theorem fl_X5_201_4 : FL RX5 201 4 0 := ⟨RX2, TX2, 7, "AnswerSums$Part", in_X2, rfl, by decide, q_453, Or.inl rfl⟩
theorem fl_X5_201_6 : FL RX5 201 6 0 := ⟨RX4, TX4, 13, "AnswerSums$Part", in_X4, rfl, by decide, q_453, Or.inl rfl⟩
theorem cv_X5_204 : CwV RX5 204 yX2_activationsIn RX2 1 cX2_activationsIn 3 (some .long) := ⟨⟨q_338, q_14, q_311, by decide +kernel, by decide +kernel⟩, q_310, q_868⟩
theorem cu_X5_204_6 : CwU RX5 204 yX2_activationsIn yX2_activationsIn RX4 RX2 1 cX2_activationsIn 3 (some .long) := ⟨q_338, q_14, q_311, by decide +kernel, by decide +kernel, q_867, q_869, q_310, rfl⟩
theorem cv_X5_208 : CwV RX5 208 yX2_cost RX2 0 cX2_cost 1 (some .long) := ⟨⟨q_339, q_14, q_252, by decide +kernel, by decide +kernel⟩, q_248, q_249⟩
theorem cu_X5_208_6 : CwU RX5 208 yX2_cost yX2_cost RX4 RX2 0 cX2_cost 1 (some .long) := ⟨q_339, q_14, q_252, by decide +kernel, by decide +kernel, q_250, q_251, q_248, rfl⟩
theorem fl_X5_26_7 : FL RX5 26 7 2 := ⟨RX5, TX5, 3, "AnswerSums", in_X5, rfl, by decide, q_140, Or.inl rfl⟩
theorem oi_X6_1 : Cond.methodLink RX6 1 Lib.objectInit ∈ lw_g := q_676
theorem ff_X6_7_8 : FF RX6 7 8 0 (.array .long) := ⟨RX6, TX6, 22, "AnswerSumsModel", tyX6, in_X6, rfl, by decide, q_677, Or.inl rfl, tyX6_ok, nmX6, rfl, rfl, rfl⟩
theorem ff_X6_13_8 : FF RX6 13 8 1 (.array .long) := ⟨RX6, TX6, 22, "AnswerSumsModel", tyX6, in_X6, rfl, by decide, q_678, Or.inl rfl, tyX6_ok, nmX6, rfl, rfl, rfl⟩
theorem ff_X6_16_8 : FF RX6 16 8 2 (.array .int) := ⟨RX6, TX6, 22, "AnswerSumsModel", tyX6, in_X6, rfl, by decide, q_679, Or.inl rfl, tyX6_ok, nmX6, rfl, rfl, rfl⟩
theorem ff_X6_20_8 : FF RX6 20 8 3 (.array .long) := ⟨RX6, TX6, 22, "AnswerSumsModel", tyX6, in_X6, rfl, by decide, q_680, Or.inl rfl, tyX6_ok, nmX6, rfl, rfl, rfl⟩
theorem ff_X6_23_8 : FF RX6 23 8 4 (.array .int) := ⟨RX6, TX6, 22, "AnswerSumsModel", tyX6, in_X6, rfl, by decide, q_681, Or.inl rfl, tyX6_ok, nmX6, rfl, rfl, rfl⟩
theorem ff_X6_26_8 : FF RX6 26 8 5 (.array .long) := ⟨RX6, TX6, 22, "AnswerSumsModel", tyX6, in_X6, rfl, by decide, q_682, Or.inl rfl, tyX6_ok, nmX6, rfl, rfl, rfl⟩
theorem ff_X6_29_8 : FF RX6 29 8 6 (.array .long) := ⟨RX6, TX6, 22, "AnswerSumsModel", tyX6, in_X6, rfl, by decide, q_683, Or.inl rfl, tyX6_ok, nmX6, rfl, rfl, rfl⟩
theorem ff_X6_32_8 : FF RX6 32 8 7 (.array .long) := ⟨RX6, TX6, 22, "AnswerSumsModel", tyX6, in_X6, rfl, by decide, q_684, Or.inl rfl, tyX6_ok, nmX6, rfl, rfl, rfl⟩
theorem ff_X6_35_8 : FF RX6 35 8 8 (.array .int) := ⟨RX6, TX6, 22, "AnswerSumsModel", tyX6, in_X6, rfl, by decide, q_685, Or.inl rfl, tyX6_ok, nmX6, rfl, rfl, rfl⟩
theorem ff_X6_38_8 : FF RX6 38 8 9 (.array .int) := ⟨RX6, TX6, 22, "AnswerSumsModel", tyX6, in_X6, rfl, by decide, q_686, Or.inl rfl, tyX6_ok, nmX6, rfl, rfl, rfl⟩
theorem ff_X6_41_8 : FF RX6 41 8 10 (.array .long) := ⟨RX6, TX6, 22, "AnswerSumsModel", tyX6, in_X6, rfl, by decide, q_687, Or.inl rfl, tyX6_ok, nmX6, rfl, rfl, rfl⟩
theorem ff_X6_44_8 : FF RX6 44 8 12 (.array .long) := ⟨RX6, TX6, 22, "AnswerSumsModel", tyX6, in_X6, rfl, by decide, q_689, Or.inl rfl, tyX6_ok, nmX6, rfl, rfl, rfl⟩
theorem ff_X6_47_8 : FF RX6 47 8 13 (.array .long) := ⟨RX6, TX6, 22, "AnswerSumsModel", tyX6, in_X6, rfl, by decide, q_690, Or.inl rfl, tyX6_ok, nmX6, rfl, rfl, rfl⟩
theorem ff_X6_50_8 : FF RX6 50 8 17 (.array .long) := ⟨RX6, TX6, 22, "AnswerSumsModel", tyX6, in_X6, rfl, by decide, q_694, Or.inl rfl, tyX6_ok, nmX6, rfl, rfl, rfl⟩
theorem ff_X6_53_8 : FF RX6 53 8 18 (.array .long) := ⟨RX6, TX6, 22, "AnswerSumsModel", tyX6, in_X6, rfl, by decide, q_695, Or.inl rfl, tyX6_ok, nmX6, rfl, rfl, rfl⟩
theorem ff_X6_56_8 : FF RX6 56 8 19 (.array .long) := ⟨RX6, TX6, 22, "AnswerSumsModel", tyX6, in_X6, rfl, by decide, q_696, Or.inl rfl, tyX6_ok, nmX6, rfl, rfl, rfl⟩
theorem ff_X6_59_8 : FF RX6 59 8 20 (.array .boolean) := ⟨RX6, TX6, 22, "AnswerSumsModel", tyX6, in_X6, rfl, by decide, q_697, Or.inl rfl, tyX6_ok, nmX6, rfl, rfl, rfl⟩
theorem fl_X6_63_8 : FL RX6 63 8 21 := ⟨RX6, TX6, 22, "AnswerSumsModel", in_X6, rfl, by decide, q_698, Or.inl rfl⟩
theorem fl_X6_67_8 : FL RX6 67 8 11 := ⟨RX6, TX6, 22, "AnswerSumsModel", in_X6, rfl, by decide, q_688, Or.inl rfl⟩
theorem fp_X6_63_8 : FP RX6 63 8 21 (.int) := ⟨RX6, TX6, 22, "AnswerSumsModel", tyX6, in_X6, rfl, by decide, q_698, Or.inl rfl, tyX6_ok, nmX6, rfl, rfl⟩
theorem k_X6_70 : Cond.constantLong RX6 70 (1000) ∈ lw_g := q_753
theorem cs_X6_72 : CwS RX6 72 yX6_within 3 cX6_within 6 (some .boolean) := ⟨⟨q_754, q_8, q_756, by decide +kernel, by decide +kernel⟩, q_755⟩
theorem k_X6_76 : Cond.constantLong RX6 76 (20000) ∈ lw_g := q_757
theorem k_X6_78 : Cond.constantLong RX6 78 (255) ∈ lw_g := q_758
theorem fp_X6_67_8 : FP RX6 67 8 11 (.int) := ⟨RX6, TX6, 22, "AnswerSumsModel", tyX6, in_X6, rfl, by decide, q_688, Or.inl rfl, tyX6_ok, nmX6, rfl, rfl⟩
theorem fl_X6_7_8 : FL RX6 7 8 0 := ⟨RX6, TX6, 22, "AnswerSumsModel", in_X6, rfl, by decide, q_677, Or.inl rfl⟩
theorem fl_X6_13_8 : FL RX6 13 8 1 := ⟨RX6, TX6, 22, "AnswerSumsModel", in_X6, rfl, by decide, q_678, Or.inl rfl⟩
theorem fl_X6_16_8 : FL RX6 16 8 2 := ⟨RX6, TX6, 22, "AnswerSumsModel", in_X6, rfl, by decide, q_679, Or.inl rfl⟩
theorem fl_X6_20_8 : FL RX6 20 8 3 := ⟨RX6, TX6, 22, "AnswerSumsModel", in_X6, rfl, by decide, q_680, Or.inl rfl⟩
theorem fl_X6_23_8 : FL RX6 23 8 4 := ⟨RX6, TX6, 22, "AnswerSumsModel", in_X6, rfl, by decide, q_681, Or.inl rfl⟩
theorem fl_X6_26_8 : FL RX6 26 8 5 := ⟨RX6, TX6, 22, "AnswerSumsModel", in_X6, rfl, by decide, q_682, Or.inl rfl⟩
theorem fl_X6_29_8 : FL RX6 29 8 6 := ⟨RX6, TX6, 22, "AnswerSumsModel", in_X6, rfl, by decide, q_683, Or.inl rfl⟩
theorem fl_X6_32_8 : FL RX6 32 8 7 := ⟨RX6, TX6, 22, "AnswerSumsModel", in_X6, rfl, by decide, q_684, Or.inl rfl⟩
theorem k_X6_80 : Cond.constantLong RX6 80 (-1) ∈ lw_g := q_759
theorem fl_X6_35_8 : FL RX6 35 8 8 := ⟨RX6, TX6, 22, "AnswerSumsModel", in_X6, rfl, by decide, q_685, Or.inl rfl⟩
theorem cv_X6_82 : CwV RX6 82 yX6_isTask RX6 1 cX6_isTask 2 (some .boolean) := ⟨⟨q_764, q_8, q_767, by decide +kernel, by decide +kernel⟩, q_766, qs_21⟩
theorem k_X6_86 : Cond.constantLong RX6 86 (20) ∈ lw_g := q_772
theorem k_X6_88 : Cond.constantLong RX6 88 (32) ∈ lw_g := q_777
theorem fl_X6_38_8 : FL RX6 38 8 9 := ⟨RX6, TX6, 22, "AnswerSumsModel", in_X6, rfl, by decide, q_686, Or.inl rfl⟩
theorem fl_X6_41_8 : FL RX6 41 8 10 := ⟨RX6, TX6, 22, "AnswerSumsModel", in_X6, rfl, by decide, q_687, Or.inl rfl⟩
theorem fl_X6_90_8 : FL RX6 90 8 14 := ⟨RX6, TX6, 22, "AnswerSumsModel", in_X6, rfl, by decide, q_691, Or.inl rfl⟩
theorem fp_X6_90_8 : FP RX6 90 8 14 (.int) := ⟨RX6, TX6, 22, "AnswerSumsModel", tyX6, in_X6, rfl, by decide, q_691, Or.inl rfl, tyX6_ok, nmX6, rfl, rfl⟩
theorem fl_X6_44_8 : FL RX6 44 8 12 := ⟨RX6, TX6, 22, "AnswerSumsModel", in_X6, rfl, by decide, q_689, Or.inl rfl⟩
theorem fl_X6_47_8 : FL RX6 47 8 13 := ⟨RX6, TX6, 22, "AnswerSumsModel", in_X6, rfl, by decide, q_690, Or.inl rfl⟩
theorem cs_X6_93 : CwS RX6 93 yX6_upwards 2 cX6_upwards 4 (some .long) := ⟨⟨q_818, q_8, q_820, by decide +kernel, by decide +kernel⟩, q_819⟩
theorem cv_X6_97 : CwV RX6 97 yX6_reaches RX6 2 cX6_reaches 6 (some .boolean) := ⟨⟨q_802, q_8, q_805, by decide +kernel, by decide +kernel⟩, q_804, qs_24⟩
theorem cv_X6_101 : CwV RX6 101 yX6_cost RX6 1 cX6_cost 2 (some .long) := ⟨⟨q_810, q_8, q_813, by decide +kernel, by decide +kernel⟩, q_812, qs_26⟩
theorem cv_X6_105 : CwV RX6 105 yX6_comes RX6 2 cX6_comes 8 (some .long) := ⟨⟨q_814, q_8, q_817, by decide +kernel, by decide +kernel⟩, q_816, qs_27⟩
theorem cv_X6_109 : CwV RX6 109 yX6_blocking RX6 1 cX6_blocking 7 (some .long) := ⟨⟨q_798, q_8, q_801, by decide +kernel, by decide +kernel⟩, q_800, qs_23⟩
theorem cv_X6_112 : CwV RX6 112 yX6_need RX6 4 cX6_need 10 (some .long) := ⟨⟨q_806, q_8, q_809, by decide +kernel, by decide +kernel⟩, q_808, qs_25⟩
theorem k_X6_116 : Cond.constantLong RX6 116 (40000) ∈ lw_g := q_821
theorem cv_X6_118 : CwV RX6 118 yX6_later RX6 2 cX6_later 7 (some .long) := ⟨⟨q_822, q_8, q_825, by decide +kernel, by decide +kernel⟩, q_824, qs_28⟩
theorem fp_X6_122_8 : FP RX6 122 8 15 (.long) := ⟨RX6, TX6, 22, "AnswerSumsModel", tyX6, in_X6, rfl, by decide, q_692, Or.inl rfl, tyX6_ok, nmX6, rfl, rfl⟩
theorem fp_X6_126_8 : FP RX6 126 8 16 (.int) := ⟨RX6, TX6, 22, "AnswerSumsModel", tyX6, in_X6, rfl, by decide, q_693, Or.inl rfl, tyX6_ok, nmX6, rfl, rfl⟩
theorem cv_X6_129 : CwV RX6 129 yX6_search RX6 1 cX6_search 11 (some .long) := ⟨⟨q_794, q_8, q_797, by decide +kernel, by decide +kernel⟩, q_796, qs_22⟩
theorem k_X6_132 : Cond.constantLong RX6 132 (-2) ∈ lw_g := q_826
theorem fl_X6_122_8 : FL RX6 122 8 15 := ⟨RX6, TX6, 22, "AnswerSumsModel", in_X6, rfl, by decide, q_692, Or.inl rfl⟩
theorem fl_X6_126_8 : FL RX6 126 8 16 := ⟨RX6, TX6, 22, "AnswerSumsModel", in_X6, rfl, by decide, q_693, Or.inl rfl⟩
theorem cv_X6_134 : CwV RX6 134 yX6_allAnswer RX6 0 cX6_allAnswer 3 (some .boolean) := ⟨⟨q_835, q_8, q_838, by decide +kernel, by decide +kernel⟩, q_837, qs_29⟩
theorem k_X6_138 : Cond.constantLong RX6 138 (1001) ∈ lw_g := q_839
theorem k_X6_140 : Cond.constantLong RX6 140 (2) ∈ lw_g := q_840
theorem k_X6_142 : Cond.constantLong RX6 142 (1000000) ∈ lw_g := q_849
theorem cv_X6_144 : CwV RX6 144 yX6_load RX6 0 cX6_load 4 (some .long) := ⟨⟨q_845, q_8, q_848, by decide +kernel, by decide +kernel⟩, q_847, qs_30⟩
theorem fl_X6_53_8 : FL RX6 53 8 18 := ⟨RX6, TX6, 22, "AnswerSumsModel", in_X6, rfl, by decide, q_695, Or.inl rfl⟩
theorem fl_X6_56_8 : FL RX6 56 8 19 := ⟨RX6, TX6, 22, "AnswerSumsModel", in_X6, rfl, by decide, q_696, Or.inl rfl⟩
theorem fl_X6_59_8 : FL RX6 59 8 20 := ⟨RX6, TX6, 22, "AnswerSumsModel", in_X6, rfl, by decide, q_697, Or.inl rfl⟩
theorem fl_X6_50_8 : FL RX6 50 8 17 := ⟨RX6, TX6, 22, "AnswerSumsModel", in_X6, rfl, by decide, q_694, Or.inl rfl⟩
theorem cs_X6_148 : CwS RX6 148 yX6_common 2 cX6_common 10 (some .long) := ⟨⟨q_854, q_8, q_856, by decide +kernel, by decide +kernel⟩, q_855⟩
theorem k_X6_151 : Cond.constantLong RX6 151 (60) ∈ lw_g := q_857
theorem k_X6_153 : Cond.constantLong RX6 153 (3) ∈ lw_g := q_858
theorem cv_X6_155 : CwV RX6 155 yX6_longest RX6 2 cX6_longest 11 (some .long) := ⟨⟨q_859, q_8, q_862, by decide +kernel, by decide +kernel⟩, q_861, qs_31⟩
theorem oi_Jxa1e45_1 : Cond.methodLink RJxa1e45 1 Lib.objectInit ∈ lw_g := q_47
theorem ci_Jxc12de_1 : CwI RJxc12de 1 yJxa1e45_init_da8c8 0 cJxa1e45_init_da8c8 1 := ⟨⟨q_44, q_3, q_46, by decide +kernel, by decide +kernel⟩, q_45, rfl⟩
theorem fp_Jxc12de_7_1 : FP RJxc12de 7 1 0 (.int) := ⟨RJx4a65c, TJx4a65c, 3, "java/util/AbstractList", tyJx4a65c, in_Jx4a65c, rfl, by decide, q_52, Or.inl rfl, tyJx4a65c_ok, nmJx4a65c, rfl, rfl⟩
theorem ci_Jx4a65c_1 : CwI RJx4a65c 1 yJxc12de_init_da8c8 0 cJxc12de_init_da8c8 1 := ⟨⟨q_41, q_4, q_43, by decide +kernel, by decide +kernel⟩, q_42, rfl⟩
theorem fp_Jx4a65c_9_1 : FP RJx4a65c 9 1 1 (.array (.object "java/lang/Object")) := ⟨RJx4a65c, TJx4a65c, 3, "java/util/ArrayList", tyJx4a65c, in_Jx4a65c, rfl, by decide, q_50, Or.inl rfl, tyJx4a65c_ok, nmJx4a65c, rfl, rfl⟩
theorem fl_Jx4a65c_9_1 : FL RJx4a65c 9 1 1 := ⟨RJx4a65c, TJx4a65c, 3, "java/util/ArrayList", in_Jx4a65c, rfl, by decide, q_50, Or.inl rfl⟩
theorem cs_Jx4a65c_73 : CwS RJx4a65c 73 yJ8_newLength_cabcc 3 cJ8_newLength_cabcc 4 (some .int) := ⟨⟨q_509, q_16, q_511, by decide +kernel, by decide +kernel⟩, q_510⟩
theorem cs_Jx4a65c_66 : CwS RJx4a65c 66 yJ7_copyOf_1904c 2 cJ7_copyOf_1904c 2 (some (.array (.object "java/lang/Object"))) := ⟨⟨q_517, q_18, q_519, by decide +kernel, by decide +kernel⟩, q_518⟩
theorem mx_Jx4a65c_79 : Cond.methodLink RJx4a65c 79 Lib.Math.max.name ∈ lw_g ∧ Cond.static Lib.Math.max.name ∈ lw_g ∧ Cond.initialized "java/lang/Math" ∈ lw_g ∧ Cond.code Lib.Math.max.name Lib.Math.max.code 2 (some .int) ∈ lw_g := ⟨q_543, q_207, q_17, q_208⟩
theorem ck_Jx4a65c_7 : Cond.classLink RJx4a65c 7 "java/lang/Object" ∈ lw_g := q_544
theorem fl_Jx4a65c_48_1 : FL RJx4a65c 48 1 2 := ⟨RJx4a65c, TJx4a65c, 3, "java/util/ArrayList", in_Jx4a65c, rfl, by decide, q_51, Or.inl rfl⟩
theorem cv_Jx4a65c_69 : CwV RJx4a65c 69 yJx4a65c_grow_92f84 RJx4a65c 1 cJx4a65c_grow_92f84 4 (some (.array (.object "java/lang/Object"))) := ⟨⟨q_505, q_5, q_508, by decide +kernel, by decide +kernel⟩, q_507, qs_19⟩
theorem cs_Jx4a65c_118 : CwS RJx4a65c 118 yJ15_checkIndex_7cf53 2 cJ15_checkIndex_7cf53 2 (some .int) := ⟨⟨q_164, q_20, q_166, by decide +kernel, by decide +kernel⟩, q_165⟩
theorem cv_Jx4a65c_123 : CwV RJx4a65c 123 yJx4a65c_elementData_915e3 RJx4a65c 1 cJx4a65c_elementData_915e3 2 (some (.object "java/lang/Object")) := ⟨⟨q_170, q_5, q_173, by decide +kernel, by decide +kernel⟩, q_171, q_172⟩
theorem cv_Jx4a65c_129 : CwV RJx4a65c 129 yJx4a65c_grow_d5877 RJx4a65c 0 cJx4a65c_grow_d5877 1 (some (.array (.object "java/lang/Object"))) := ⟨⟨q_501, q_5, q_504, by decide +kernel, by decide +kernel⟩, q_503, qs_18⟩
theorem fp_Jx4a65c_48_1 : FP RJx4a65c 48 1 2 (.int) := ⟨RJx4a65c, TJx4a65c, 3, "java/util/ArrayList", tyJx4a65c, in_Jx4a65c, rfl, by decide, q_51, Or.inl rfl, tyJx4a65c_ok, nmJx4a65c, rfl, rfl⟩
theorem fl_Jx4a65c_63_1 : FL RJx4a65c 63 1 0 := ⟨RJx4a65c, TJx4a65c, 3, "java/util/ArrayList", in_Jx4a65c, rfl, by decide, q_53, Or.inr q_54⟩
theorem fp_Jx4a65c_63_1 : FP RJx4a65c 63 1 0 (.int) := ⟨RJx4a65c, TJx4a65c, 3, "java/util/ArrayList", tyJx4a65c, in_Jx4a65c, rfl, by decide, q_53, Or.inr q_54, tyJx4a65c_ok, nmJx4a65c, rfl, rfl⟩
theorem cv_Jx4a65c_131 : CwV RJx4a65c 131 yJx4a65c_add_72be8 RJx4a65c 3 cJx4a65c_add_72be8 4 none := ⟨⟨q_497, q_5, q_500, by decide +kernel, by decide +kernel⟩, q_499, qs_17⟩
theorem cs_J7_300 : CwS RJ7 300 yJ7_copyOf_6403c 3 cJ7_copyOf_6403c 4 (some (.array (.object "java/lang/Object"))) := ⟨⟨q_533, q_18, q_535, by decide +kernel, by decide +kernel⟩, q_534⟩
theorem ck_J7_2 : Cond.classLink RJ7 2 "java/lang/Object" ∈ lw_g := q_538
theorem ck_J7_110 : Cond.classLink RJ7 110 "[Ljava/lang/Object;" ∈ lw_g := q_536
theorem mx_J7_304 : Cond.methodLink RJ7 304 Lib.Math.min.name ∈ lw_g ∧ Cond.static Lib.Math.min.name ∈ lw_g ∧ Cond.initialized "java/lang/Math" ∈ lw_g ∧ Cond.code Lib.Math.min.name Lib.Math.min.code 2 (some .int) ∈ lw_g := ⟨q_539, q_391, q_17, q_392⟩
theorem cs_J15_105 : CwS RJ15 105 yJ3_checkIndex_8e157 3 cJ3_checkIndex_8e157 3 (some .int) := ⟨⟨q_167, q_21, q_169, by decide +kernel, by decide +kernel⟩, q_168⟩
theorem mx_J8_194 : Cond.methodLink RJ8 194 Lib.Math.max.name ∈ lw_g ∧ Cond.static Lib.Math.max.name ∈ lw_g ∧ Cond.initialized "java/lang/Math" ∈ lw_g ∧ Cond.code Lib.Math.max.name Lib.Math.max.code 2 (some .int) ∈ lw_g := ⟨q_512, q_207, q_17, q_208⟩
theorem k_J8_200 : Cond.constant RJ8 200 (2147483639) ∈ lw_g := q_513
theorem cs_J8_201 : CwS RJ8 201 yJ8_hugeLength_7cf53 2 cJ8_hugeLength_7cf53 3 (some .int) := ⟨⟨q_514, q_16, q_516, by decide +kernel, by decide +kernel⟩, q_515⟩
theorem cv_L_7 : CwV RL 7 yX5_task RX5 3 cX5_task 7 (some .int) := ⟨⟨q_621, q_1, q_624, by decide +kernel, by decide +kernel⟩, q_622, q_623⟩
theorem nw_L_8 : NW RL 8 7 3 [.null, .null, .null] := ⟨RX5, TX5, tyX5, in_X5, tyX5_ok, q_22, q_23, q_1, rfl, fun j hj => by match j, hj with | 0, _ => rfl | 1, _ => rfl | 2, _ => rfl⟩
theorem ci_L_15 : CwI RL 15 yX5_init 0 cX5_init 1 := ⟨⟨q_24, q_1, q_26, by decide +kernel, by decide +kernel⟩, q_25, rfl⟩
theorem nw_L_16 : NW RL 16 8 22 [.null, .null, .null, .null, .null, .null, .null, .null, .null, .null, .null, .int (iZ 0), .null, .null, .int (iZ 0), .long (lZ 0), .int (iZ 0), .null, .null, .null, .null, .int (iZ 0)] := ⟨RX6, TX6, tyX6, in_X6, tyX6_ok, q_671, q_672, q_8, rfl, fun j hj => by match j, hj with | 0, _ => rfl | 1, _ => rfl | 2, _ => rfl | 3, _ => rfl | 4, _ => rfl | 5, _ => rfl | 6, _ => rfl | 7, _ => rfl | 8, _ => rfl | 9, _ => rfl | 10, _ => rfl | 11, _ => rfl | 12, _ => rfl | 13, _ => rfl | 14, _ => rfl | 15, _ => rfl | 16, _ => rfl | 17, _ => rfl | 18, _ => rfl | 19, _ => rfl | 20, _ => rfl | 21, _ => rfl | j + 22, h => exact absurd h (by omega)⟩
theorem ci_L_18 : CwI RL 18 yX6_init 0 cX6_init 1 := ⟨⟨q_673, q_8, q_675, by decide +kernel, by decide +kernel⟩, q_674, rfl⟩
theorem k_L_19 : Cond.constantLong RL 19 (4294967295) ∈ lw_g := q_863
theorem cv_L_26 : CwV RL 26 yX6_task RX6 3 cX6_task 6 (some .int) := ⟨⟨q_749, q_8, q_752, by decide +kernel, by decide +kernel⟩, q_750, q_751⟩
theorem cv_L_27 : CwV RL 27 yX6_thrown RX6 0 cX6_thrown 1 (some .int) := ⟨⟨q_745, q_8, q_748, by decide +kernel, by decide +kernel⟩, q_746, q_747⟩
theorem cv_L_31 : CwV RL 31 yX5_jitter RX5 2 cX5_jitter 5 (some .int) := ⟨⟨q_148, q_1, q_151, by decide +kernel, by decide +kernel⟩, q_149, q_150⟩
theorem cv_L_35 : CwV RL 35 yX6_jitter RX6 2 cX6_jitter 4 (some .int) := ⟨⟨q_760, q_8, q_763, by decide +kernel, by decide +kernel⟩, q_761, q_762⟩
theorem cv_L_36 : CwV RL 36 yX5_burst RX5 3 cX5_burst 6 (some .int) := ⟨⟨q_183, q_1, q_186, by decide +kernel, by decide +kernel⟩, q_184, q_185⟩
theorem cv_L_40 : CwV RL 40 yX6_burst RX6 3 cX6_burst 5 (some .int) := ⟨⟨q_768, q_8, q_771, by decide +kernel, by decide +kernel⟩, q_769, q_770⟩
theorem cv_L_41 : CwV RL 41 yX5_section RX5 3 cX5_section 6 (some .int) := ⟨⟨q_190, q_1, q_193, by decide +kernel, by decide +kernel⟩, q_191, q_192⟩
theorem cv_L_44 : CwV RL 44 yX6_section RX6 3 cX6_section 5 (some .int) := ⟨⟨q_773, q_8, q_776, by decide +kernel, by decide +kernel⟩, q_774, q_775⟩
theorem cv_L_45 : CwV RL 45 yX5_offset RX5 2 cX5_offset 5 (some .int) := ⟨⟨q_209, q_1, q_212, by decide +kernel, by decide +kernel⟩, q_210, q_211⟩
theorem cv_L_48 : CwV RL 48 yX6_offset RX6 2 cX6_offset 4 (some .int) := ⟨⟨q_778, q_8, q_781, by decide +kernel, by decide +kernel⟩, q_779, q_780⟩
theorem cv_L_49 : CwV RL 49 yX5_answer RX5 1 cX5_answer 3 (some .long) := ⟨⟨q_214, q_1, q_217, by decide +kernel, by decide +kernel⟩, q_215, q_216⟩
theorem cv_L_53 : CwV RL 53 yX6_answer RX6 1 cX6_answer 2 (some .long) := ⟨⟨q_790, q_8, q_793, by decide +kernel, by decide +kernel⟩, q_791, q_792⟩
theorem cv_L_54 : CwV RL 54 yX5_reason RX5 3 cX5_reason 7 (some .int) := ⟨⟨q_320, q_1, q_323, by decide +kernel, by decide +kernel⟩, q_321, q_322⟩
theorem cv_L_58 : CwV RL 58 yX6_reason RX6 3 cX6_reason 14 (some .int) := ⟨⟨q_827, q_8, q_830, by decide +kernel, by decide +kernel⟩, q_828, q_829⟩
theorem cv_L_59 : CwV RL 59 yX5_longer RX5 1 cX5_longer 12 (some .long) := ⟨⟨q_340, q_1, q_343, by decide +kernel, by decide +kernel⟩, q_341, q_342⟩
theorem cv_L_62 : CwV RL 62 yX6_longer RX6 1 cX6_longer 8 (some .long) := ⟨⟨q_831, q_8, q_834, by decide +kernel, by decide +kernel⟩, q_832, q_833⟩
theorem cv_L_63 : CwV RL 63 yX5_busy RX5 1 cX5_busy 9 (some .long) := ⟨⟨q_349, q_1, q_352, by decide +kernel, by decide +kernel⟩, q_350, q_351⟩
theorem cv_L_66 : CwV RL 66 yX6_busy RX6 1 cX6_busy 9 (some .long) := ⟨⟨q_841, q_8, q_844, by decide +kernel, by decide +kernel⟩, q_842, q_843⟩
theorem cv_L_67 : CwV RL 67 yX5_plain RX5 1 cX5_plain 7 (some .boolean) := ⟨⟨q_363, q_1, q_366, by decide +kernel, by decide +kernel⟩, q_364, q_365⟩
theorem cv_L_71 : CwV RL 71 yX6_plain RX6 1 cX6_plain 18 (some .boolean) := ⟨⟨q_850, q_8, q_853, by decide +kernel, by decide +kernel⟩, q_851, q_852⟩
theorem cv_L_72 : CwV RL 72 yX5_interrupt RX5 2 cX5_interrupt 6 (some .int) := ⟨⟨q_442, q_1, q_445, by decide +kernel, by decide +kernel⟩, q_443, q_444⟩
theorem cv_L_76 : CwV RL 76 yX6_interrupt RX6 2 cX6_interrupt 5 (some .int) := ⟨⟨q_782, q_8, q_785, by decide +kernel, by decide +kernel⟩, q_783, q_784⟩
theorem cv_L_77 : CwV RL 77 yX5_spin RX5 2 cX5_spin 5 (some .int) := ⟨⟨q_545, q_1, q_548, by decide +kernel, by decide +kernel⟩, q_546, q_547⟩
theorem cv_L_80 : CwV RL 80 yX6_spin RX6 2 cX6_spin 4 (some .int) := ⟨⟨q_786, q_8, q_789, by decide +kernel, by decide +kernel⟩, q_787, q_788⟩
theorem ac_int : Cond.arrayClass .int ∈ lw_g := q_74
theorem ac_long : Cond.arrayClass .long ∈ lw_g := q_113
theorem ac_boolean : Cond.arrayClass .boolean ∈ lw_g := q_744
theorem oi_m : Cond.instanceMethod Lib.objectInit ∈ lw_g := q_28
theorem oi_c : Cond.code Lib.objectInit ⟨#[0xb1]⟩ 1 none ∈ lw_g := q_29
end
section
/-! NUMBERS: what the sums are -/
theorem mulb {a b A B : Int} (ha : 0 ≤ a ∧ a ≤ A) (hb : 0 ≤ b ∧ b ≤ B) : 0 ≤ a * b ∧ a * b ≤ A * B :=
  ⟨Int.mul_nonneg ha.1 hb.1, Int.mul_le_mul ha.2 hb.2 hb.1 (Int.le_trans ha.1 ha.2)⟩
theorem divb {a b A : Int} (ha : 0 ≤ a ∧ a ≤ A) (hb : 0 < b) : 0 ≤ a / b ∧ a / b ≤ A :=
  ⟨Int.ediv_nonneg ha.1 (by omega), Int.le_trans (Int.ediv_le_self _ ha.1) ha.2⟩
/-- d / b upwards -/
def upw (d b : Int) : Int := (d + b - 1) / b
theorem upw_b {d b D : Int} (hd : 0 ≤ d ∧ d ≤ D) (hb : 1 ≤ b) : 0 ≤ upw d b ∧ upw d b ≤ D := by
  unfold upw
  refine ⟨Int.ediv_nonneg (by omega) (by omega), ?_⟩
  have h : (d + b - 1) / b ≤ d := by
    by_cases h0 : d = 0
    · subst h0
      rw [Int.ediv_eq_zero_of_lt (by omega) (by omega)]
      omega
    · have h1 : 0 ≤ (d - 1) * (b - 1) := Int.mul_nonneg (by omega) (by omega)
      have h2 : (d - 1) * (b - 1) = d * b - d - b + 1 := by
        rw [Int.sub_mul, Int.mul_sub, Int.mul_sub]; omega
      have h3 : d + b - 1 ≤ d * b := by omega
      exact Int.ediv_le_of_le_mul (by omega) h3
  omega
theorem upw_mono {d d' b : Int} (h : d ≤ d') (hb : 1 ≤ b) : upw d b ≤ upw d' b := by
  unfold upw; exact Int.ediv_le_ediv (by omega) (by omega)
theorem upw_ge {d b : Int} (hb : 1 ≤ b) : d ≤ upw d b * b := by
  unfold upw
  have h1 := Int.emod_nonneg (d + b - 1) (show b ≠ 0 by omega)
  have h2 := Int.emod_lt_of_pos (d + b - 1) (show 0 < b by omega)
  have h3 := Int.mul_ediv_add_emod (d + b - 1) b
  rw [Int.mul_comm] at h3
  omega
theorem upw_le {d b k : Int} (hb : 1 ≤ b) (h : d ≤ k * b) : upw d b ≤ k := by
  unfold upw
  have h1 : d + b - 1 < (k + 1) * b := by rw [Int.add_mul]; omega
  have h2 : (d + b - 1) / b < k + 1 := Int.ediv_lt_of_lt_mul (by omega) h1
  omega
/-- the same, by the remainder -/
theorem upw_rem {d b : Int} (hb : 1 ≤ b) : (if d % b = 0 then d / b else d / b + 1) = upw d b := by
  have h1 := Int.emod_nonneg d (show b ≠ 0 by omega)
  have h2 := Int.emod_lt_of_pos d (show 0 < b by omega)
  have h3 := Int.mul_ediv_add_emod d b
  unfold upw
  split
  · rename_i h0
    have : d + b - 1 = (b - 1) + (d / b) * b := by rw [Int.mul_comm]; omega
    rw [this, Int.add_mul_ediv_right _ _ (by omega), Int.ediv_eq_zero_of_lt (a := b - 1) (b := b) (by omega) (by omega)]
    omega
  · rename_i h0
    have : d + b - 1 = (d % b - 1) + (d / b + 1) * b := by rw [Int.add_mul, Int.mul_comm (d / b)]; omega
    rw [this, Int.add_mul_ediv_right _ _ (by omega), Int.ediv_eq_zero_of_lt (a := d % b - 1) (b := b) (by omega) (by omega)]
    omega
/-- the state: fields by number, places from 1 on. 0 OWN, 1 PERIOD, 2 RANK, 3 JITTER, 4 how many at a time, 5 INNER, 6 SPIN, 7 phase, 8 how many sections, 9 resources, 10 lengths (10 t - 10 + k), 12 OWN of interrupts, 13 PERIOD of interrupts (the reference's own field numbers) -/
abbrev St : Type := Nat → Nat → Int
def cosT (σ : St) (t : Nat) : Int := σ 0 t + σ 6 t
def acts (inn many jit per w : Int) : Int := if many * upw (w + jit) per < upw w inn then many * upw (w + jit) per else upw w inn
def late (inn many jit per q : Int) : Int := if (0 : Int) < (if q / many * per - jit < q * inn then q * inn else q / many * per - jit) then (if q / many * per - jit < q * inn then q * inn else q / many * per - jit) else 0
def actT (σ : St) (t : Nat) (w : Int) : Int := acts (σ 5 t) (σ 4 t) (σ 3 t) (σ 1 t) w
def latT (σ : St) (t : Nat) (q : Int) : Int := late (σ 5 t) (σ 4 t) (σ 3 t) (σ 1 t) q
/-- what the fields may hold -/
def OKt (σ : St) (t : Nat) : Prop := (1 ≤ σ 0 t ∧ σ 0 t ≤ 1000) ∧ (1 ≤ σ 1 t ∧ σ 1 t ≤ 20000) ∧ (0 ≤ σ 2 t ∧ σ 2 t ≤ 255) ∧ (0 ≤ σ 3 t ∧ σ 3 t ≤ 20000) ∧ (1 ≤ σ 4 t ∧ σ 4 t ≤ 20) ∧ (1 ≤ σ 5 t ∧ σ 5 t ≤ 20000) ∧ (0 ≤ σ 6 t ∧ σ 6 t ≤ 1000) ∧ (-1 ≤ σ 7 t ∧ σ 7 t < σ 1 t) ∧ (0 ≤ σ 8 t ∧ σ 8 t ≤ 10) ∧ ∀ k : Nat, (k : Int) < σ 8 t → (1 ≤ σ 9 (10 * t - 10 + k) ∧ σ 9 (10 * t - 10 + k) ≤ 32) ∧ (1 ≤ σ 10 (10 * t - 10 + k) ∧ σ 10 (10 * t - 10 + k) ≤ 1000)
def OKi (σ : St) (i : Nat) : Prop := (1 ≤ σ 12 i ∧ σ 12 i ≤ 1000) ∧ (1 ≤ σ 13 i ∧ σ 13 i ≤ 20000)
def OK (n m : Nat) (σ : St) : Prop := n ≤ 16 ∧ m ≤ 8 ∧ (∀ t : Nat, 1 ≤ t → t ≤ n → OKt σ t) ∧ ∀ i : Nat, 1 ≤ i → i ≤ m → OKi σ i
theorem acts_b {inn many jit per w : Int} (hi : 1 ≤ inn) (hm : 1 ≤ many ∧ many ≤ 20) (hj : 0 ≤ jit ∧ jit ≤ 20000) (hp : 1 ≤ per) {W : Int} (hw : 0 ≤ w ∧ w ≤ W) : 0 ≤ acts inn many jit per w ∧ acts inn many jit per w ≤ W := by
  have h1 := upw_b hw hi
  have h2 := upw_b (d := w + jit) (D := W + 20000) (b := per) (by omega) hp
  have h3 := mulb (a := many) (A := 20) (by omega) h2
  unfold acts
  split <;> omega
theorem late_b {inn many jit per q : Int} (hi : 1 ≤ inn ∧ inn ≤ 20000) (hm : 1 ≤ many) (hj : 0 ≤ jit ∧ jit ≤ 20000) (hp : 1 ≤ per ∧ per ≤ 20000) (hq : 0 ≤ q ∧ q ≤ 500) : 0 ≤ late inn many jit per q ∧ late inn many jit per q ≤ 10000000 := by
  have h1 := mulb hq (show 0 ≤ inn ∧ inn ≤ 20000 by omega)
  have h2 := divb hq (show 0 < many by omega)
  have h3 := mulb h2 (show 0 ≤ per ∧ per ≤ 20000 by omega)
  unfold late
  (repeat' split) <;> omega
/-- a section of a task of a rank not below k, of the resource r -/
def reach (σ : St) (n : Nat) (r k : Int) : Prop := ∃ o j : Nat, 1 ≤ o ∧ o ≤ n ∧ (j : Int) < σ 8 o ∧ k ≤ σ 2 o ∧ σ 9 (10 * o - 10 + j) = r
/-- the greatest of a set, or 0 -/
def isMax (S : Int → Prop) (x : Int) : Prop := (x = 0 ∨ S x) ∧ 0 ≤ x ∧ ∀ y, S y → y ≤ x
theorem isMax.uniq {S : Int → Prop} {x y : Int} (hx : isMax S x) (hy : isMax S y) : x = y := by
  obtain ⟨a1, a2, a3⟩ := hx
  obtain ⟨b1, b2, b3⟩ := hy
  have h1 : x ≤ y := by rcases a1 with h | h; omega; exact b3 _ h
  have h2 : y ≤ x := by rcases b1 with h | h; omega; exact a3 _ h
  omega
theorem isMax.congr {S T : Int → Prop} {x : Int} (h : isMax S x) (e : ∀ y, S y ↔ T y) : isMax T x := ⟨h.1.imp id (fun q => (e _).mp q), h.2.1, fun y hy => h.2.2 y ((e y).mpr hy)⟩
theorem isMax.zero {S : Int → Prop} (h : ∀ y, ¬ S y) : isMax S 0 := ⟨Or.inl rfl, Int.le_refl 0, fun y hy => absurd hy (h y)⟩
theorem isMax.keep {S T : Int → Prop} {x : Int} (h : isMax S x) (h1 : ∀ y, S y → T y) (h2 : ∀ y, T y → S y ∨ y ≤ x) : isMax T x := ⟨h.1.imp id (h1 _), h.2.1, fun y hy => by rcases h2 y hy with q | q; exact h.2.2 y q; exact q⟩
theorem isMax.more {S T : Int → Prop} {x l : Int} (h : isMax S x) (hl : x ≤ l) (h0 : T l) (h2 : ∀ y, T y → S y ∨ y ≤ l) : isMax T l := ⟨Or.inr h0, by have := h.2.1; omega, fun y hy => by rcases h2 y hy with q | q; (have := h.2.2 y q; omega); exact q⟩
/-- sections that may block t -/
def blkS (σ : St) (n t : Nat) (y : Int) : Prop := ∃ o j : Nat, 1 ≤ o ∧ o ≤ n ∧ (j : Int) < σ 8 o ∧ σ 2 o < σ 2 t ∧ reach σ n (σ 9 (10 * o - 10 + j)) (σ 2 t) ∧ y = σ 10 (10 * o - 10 + j)
noncomputable def blk (σ : St) (n t : Nat) : Int := Classical.epsilon (isMax (blkS σ n t))
theorem blk_eq {σ : St} {n t : Nat} {x : Int} (h : isMax (blkS σ n t) x) : x = blk σ n t := h.uniq (Classical.epsilon_spec (p := isMax (blkS σ n t)) ⟨x, h⟩)
/-- what is above t takes in w -/
def takT (σ : St) (t : Nat) : Nat → Int → Int
  | 0, _ => 0
  | o + 1, w => takT σ t o w + if o + 1 ≠ t ∧ σ 2 t ≤ σ 2 (o + 1) then actT σ (o + 1) w * cosT σ (o + 1) else 0
def takI (σ : St) : Nat → Int → Int
  | 0, _ => 0
  | i + 1, w => takI σ i w + upw w (σ 13 (i + 1)) * σ 12 (i + 1)
def nee (σ : St) (n m t : Nat) (B q w : Int) : Int := (q + 1) * cosT σ t + B + takT σ t n w + takI σ m w
/-- the least w from 1 on that is not below what f asks for -/
def isL (f : Int → Int) (w : Int) : Prop := 1 ≤ w ∧ f w ≤ w ∧ ∀ v, 1 ≤ v → f v ≤ v → w ≤ v
/-- .., 0 if there is none up to 40000 -/
noncomputable def spn (f : Int → Int) : Int := Classical.epsilon (fun w : Int => (isL f w ∧ w ≤ 40000) ∨ (w = 0 ∧ ∀ v, 1 ≤ v → v ≤ 40000 → ¬ f v ≤ v))
theorem spn_some {f : Int → Int} {w : Int} (h : isL f w) (hw : w ≤ 40000) : spn f = w := by
  have hs := Classical.epsilon_spec (p := fun w : Int => (isL f w ∧ w ≤ 40000) ∨ (w = 0 ∧ ∀ v, 1 ≤ v → v ≤ 40000 → ¬ f v ≤ v)) ⟨w, Or.inl ⟨h, hw⟩⟩
  show Classical.epsilon _ = w
  generalize Classical.epsilon (fun w : Int => (isL f w ∧ w ≤ 40000) ∨ (w = 0 ∧ ∀ v, 1 ≤ v → v ≤ 40000 → ¬ f v ≤ v)) = x at hs ⊢
  rcases hs with ⟨h1, h2⟩ | ⟨h1, h2⟩
  · have e1 := h1.2.2 w h.1 h.2.1
    have e2 := h.2.2 x h1.1 h1.2.1
    omega
  · exact absurd h.2.1 (h2 w h.1 hw)
theorem spn_none {f : Int → Int} (h : ∀ v, 1 ≤ v → v ≤ 40000 → ¬ f v ≤ v) : spn f = 0 := by
  have hs := Classical.epsilon_spec (p := fun w : Int => (isL f w ∧ w ≤ 40000) ∨ (w = 0 ∧ ∀ v, 1 ≤ v → v ≤ 40000 → ¬ f v ≤ v)) ⟨0, Or.inr ⟨rfl, h⟩⟩
  show Classical.epsilon _ = 0
  generalize Classical.epsilon (fun w : Int => (isL f w ∧ w ≤ 40000) ∨ (w = 0 ∧ ∀ v, 1 ≤ v → v ≤ 40000 → ¬ f v ≤ v)) = x at hs ⊢
  rcases hs with ⟨h1, h2⟩ | ⟨h1, h2⟩
  · exact absurd h1.2.1 (h x h1.1 h2)
  · exact h1
/-- the search over the turns: ANSWER (or -1), its turn and span -/
noncomputable def srch (σ : St) (n m t : Nat) (B : Int) : Nat → Int → Int → Int → Int → Int × Int × Int
  | 0, _, _, _, _ => (-1, 0, 0)
  | k + 1, q, best, tu, sp =>
    if spn (nee σ n m t B q) = 0 then (-1, 0, 0)
    else if spn (nee σ n m t B q) ≤ latT σ t (q + 1) then
      (if best < spn (nee σ n m t B q) - latT σ t q then (if σ 1 t < spn (nee σ n m t B q) - latT σ t q then (-1, 0, 0) else (spn (nee σ n m t B q) - latT σ t q, q, spn (nee σ n m t B q)))
        else (if σ 1 t < best then (-1, 0, 0) else (best, tu, sp)))
    else (if best < spn (nee σ n m t B q) - latT σ t q then srch σ n m t B k (q + 1) (spn (nee σ n m t B q) - latT σ t q) q (spn (nee σ n m t B q)) else srch σ n m t B k (q + 1) best tu sp)
noncomputable def ansF (σ : St) (n m t : Nat) : Int × Int × Int := srch σ n m t (blk σ n t) 500 0 (-1) 0 0
theorem srch_over {σ : St} {n m t : Nat} {B : Int} : ∀ (k : Nat) (q best tu sp : Int), σ 1 t < best → srch σ n m t B k q best tu sp = (-1, 0, 0)
  | 0, _, _, _, _, _ => rfl
  | k + 1, q, best, tu, sp, h => by
    unfold srch
    split
    · rfl
    · split
      · (repeat' split) <;> first | rfl | (exfalso; omega)
      · split
        · exact srch_over k _ _ _ _ (by omega)
        · exact srch_over k _ _ _ _ (by omega)
theorem takT_b {σ : St} {n m t : Nat} (hO : OK n m σ) {w : Int} (hw : 0 ≤ w ∧ w ≤ 1000000) : ∀ o : Nat, o ≤ n → 0 ≤ takT σ t o w ∧ takT σ t o w ≤ (o : Int) * 2000000000
  | 0, _ => ⟨Int.le_refl 0, by show (0 : Int) ≤ _; omega⟩
  | o + 1, h => by
    have ih := takT_b hO (t := t) hw o (by omega)
    obtain ⟨h0, h1, h2, h3, h4, h5, h6, -⟩ := hO.2.2.1 (o + 1) (by omega) h
    have ha : 0 ≤ actT σ (o + 1) w ∧ actT σ (o + 1) w ≤ 1000000 := acts_b h5.1 h4 h3 h1.1 hw
    have hm := mulb ha (show 0 ≤ cosT σ (o + 1) ∧ cosT σ (o + 1) ≤ 2000 by unfold cosT; omega)
    unfold takT
    split <;> omega
theorem takI_b {σ : St} {n m : Nat} (hO : OK n m σ) {w : Int} (hw : 0 ≤ w ∧ w ≤ 1000000) : ∀ i : Nat, i ≤ m → 0 ≤ takI σ i w ∧ takI σ i w ≤ (i : Int) * 1000000000
  | 0, _ => ⟨Int.le_refl 0, by show (0 : Int) ≤ _; omega⟩
  | i + 1, h => by
    have ih := takI_b hO hw i (by omega)
    obtain ⟨h0, h1⟩ := hO.2.2.2 (i + 1) (by omega) h
    have hu := upw_b hw h1.1
    have hm := mulb hu (show 0 ≤ σ 12 (i + 1) ∧ σ 12 (i + 1) ≤ 1000 by omega)
    unfold takI
    omega
theorem acts_mono {inn many jit per w w' : Int} (hi : 1 ≤ inn) (hm : 1 ≤ many) (hp : 1 ≤ per) (h : w ≤ w') : acts inn many jit per w ≤ acts inn many jit per w' := by
  have h1 := upw_mono h hi
  have h2 : upw (w + jit) per ≤ upw (w' + jit) per := upw_mono (by omega) hp
  have h3 := Int.mul_le_mul_of_nonneg_left h2 (show 0 ≤ many by omega)
  unfold acts
  split <;> split <;> omega
theorem takT_mono {σ : St} {n m t : Nat} (hO : OK n m σ) {w w' : Int} (h : w ≤ w') : ∀ o : Nat, o ≤ n → takT σ t o w ≤ takT σ t o w'
  | 0, _ => Int.le_refl 0
  | o + 1, h9 => by
    have ih := takT_mono hO (t := t) h o (by omega)
    obtain ⟨h0, h1, h2, h3, h4, h5, h6, -⟩ := hO.2.2.1 (o + 1) (by omega) h9
    have ha : actT σ (o + 1) w ≤ actT σ (o + 1) w' := acts_mono h5.1 h4.1 h1.1 h
    have hm := Int.mul_le_mul_of_nonneg_right ha (show 0 ≤ cosT σ (o + 1) by unfold cosT; omega)
    unfold takT
    split <;> omega
theorem takI_mono {σ : St} {n m : Nat} (hO : OK n m σ) {w w' : Int} (h : w ≤ w') : ∀ i : Nat, i ≤ m → takI σ i w ≤ takI σ i w'
  | 0, _ => Int.le_refl 0
  | i + 1, h9 => by
    have ih := takI_mono hO h i (by omega)
    obtain ⟨h0, h1⟩ := hO.2.2.2 (i + 1) (by omega) h9
    have hu := upw_mono h h1.1
    have hm := Int.mul_le_mul_of_nonneg_right hu (show 0 ≤ σ 12 (i + 1) by omega)
    unfold takI
    omega
theorem nee_mono {σ : St} {n m t : Nat} (hO : OK n m σ) {B q w w' : Int} (h : w ≤ w') : nee σ n m t B q w ≤ nee σ n m t B q w' := by
  have h1 := takT_mono hO (t := t) h n (Nat.le_refl n)
  have h2 := takI_mono hO h m (Nat.le_refl m)
  unfold nee; omega
theorem nee_b {σ : St} {n m t : Nat} (hO : OK n m σ) (ht : 1 ≤ t ∧ t ≤ n) {B q w : Int} (hB : 0 ≤ B ∧ B ≤ 1000) (hq : 0 ≤ q ∧ q ≤ 500) (hw : 0 ≤ w ∧ w ≤ 1000000) : 1 ≤ nee σ n m t B q w ∧ nee σ n m t B q w ≤ 50000000000 := by
  have h1 := takT_b hO (t := t) hw n (Nat.le_refl n)
  have h2 := takI_b hO hw m (Nat.le_refl m)
  obtain ⟨h0, -, -, -, -, -, h6, -⟩ := hO.2.2.1 t ht.1 ht.2
  have hc : 1 ≤ cosT σ t ∧ cosT σ t ≤ 2000 := by unfold cosT; omega
  have h3 : 0 ≤ q * cosT σ t ∧ q * cosT σ t ≤ 500 * 2000 := mulb hq (by omega)
  have hn := hO.1
  have hm := hO.2.1
  have e : (q + 1) * cosT σ t = q * cosT σ t + cosT σ t := by rw [Int.add_mul, Int.one_mul]
  unfold nee
  omega
theorem nee_succ {σ : St} {n m t : Nat} {B q w : Int} : nee σ n m t B (q + 1) w = nee σ n m t B q w + cosT σ t := by
  have e : (q + 1 + 1) * cosT σ t = (q + 1) * cosT σ t + cosT σ t := by rw [Int.add_mul (q + 1), Int.one_mul]
  unfold nee; omega
theorem late_0 {inn many jit per : Int} (hj : 0 ≤ jit) : late inn many jit per 0 = 0 := by
  unfold late
  rw [Int.zero_mul, Int.zero_ediv, Int.zero_mul]
  (repeat' split) <;> omega
end
section
/-! LEAVES: methods that read numbers, of the class and of the lists -/
set_option maxRecDepth 100000 in
set_option maxHeartbeats 4000000 in
theorem c_upwards {l : Launch} {G : Gt} {B : Nat} (h : hF) (d b : Int) (hd : 0 ≤ d ∧ d ≤ 1000000000000000) (hb : 1 ≤ b ∧ b ≤ 1000000000000) : Ct l G B yX5_upwards cX5_upwards 4 (some .long) 0 0 0 [.long (lZ d), .long (lZ b)] h (fun v h' => v = .long (lZ (upw d b)) ∧ h = h') := by
  refine Ct.of (by decide) (Nat.le_of_ble_eq_true rfl) ?_
  intro p e s m below meth c A hX hR hin
  refine j_lload_n hX dX5_upwards_0 rfl ?_
  refine j_lconst1 hX dX5_upwards_1 ?_
  refine j_lcmp_ge hX 10 dX5_upwards_2 dX5_upwards_3 (by decide) (by omega) (by omega) (fun c2 => ?_) (fun c2 => absurd c2 (by omega))
  refine j_lload_n hX dX5_upwards_10 rfl ?_
  refine j_lload_n hX dX5_upwards_11 rfl ?_
  refine j_ladd hX dX5_upwards_12 ?_
  refine j_lconst1 hX dX5_upwards_13 ?_
  refine j_lsub hX dX5_upwards_14 ?_
  refine j_lload_n hX dX5_upwards_15 rfl ?_
  refine j_ldiv hX dX5_upwards_16 (by omega) (by omega) ?_
  exact j_lret hX hR dX5_upwards_17 ⟨rfl, rfl⟩
set_option maxRecDepth 100000 in
set_option maxHeartbeats 4000000 in
theorem c_whole {l : Launch} {G : Gt} {B : Nat} (h : hF) (d b : Int) (hd : 0 ≤ d ∧ d ≤ 1000000000000000) (hb : 1 ≤ b ∧ b ≤ 1000000000000) : Ct l G B yX5_whole cX5_whole 4 (some .long) 0 0 0 [.long (lZ d), .long (lZ b)] h (fun v h' => v = .long (lZ (d / b)) ∧ h = h') := by
  refine Ct.of (by decide) (Nat.le_of_ble_eq_true rfl) ?_
  intro p e s m below meth c A hX hR hin
  refine j_lload_n hX dX5_whole_0 rfl ?_
  refine j_lconst1 hX dX5_whole_1 ?_
  refine j_lcmp_ge hX 10 dX5_whole_2 dX5_whole_3 (by decide) (by omega) (by omega) (fun c2 => ?_) (fun c2 => absurd c2 (by omega))
  refine j_lload_n hX dX5_whole_10 rfl ?_
  refine j_lload_n hX dX5_whole_11 rfl ?_
  refine j_ldiv hX dX5_whole_12 (by omega) (by omega) ?_
  exact j_lret hX hR dX5_whole_13 ⟨rfl, rfl⟩
/-- a Part or a Task at b, of these numbers -/
def PartAt (h : hF) (b : Nat) (own per spin jit inn many : Int) : Prop := ∃ (ci : Nat) (fs : List Value), (ci = 4 ∨ ci = 6) ∧ h b = some (.inr (ci, fs)) ∧ fs[1]? = some (.long (lZ per)) ∧ fs[2]? = some (.long (lZ own)) ∧ fs[3]? = some (.long (lZ spin)) ∧ fs[4]? = some (.long (lZ jit)) ∧ fs[5]? = some (.long (lZ inn)) ∧ fs[6]? = some (.int (iZ many))
def PartOK (own per spin jit inn many : Int) : Prop := (1 ≤ own ∧ own ≤ 1000) ∧ (1 ≤ per ∧ per ≤ 20000) ∧ (0 ≤ spin ∧ spin ≤ 1000) ∧ (0 ≤ jit ∧ jit ≤ 20000) ∧ (1 ≤ inn ∧ inn ≤ 20000) ∧ (1 ≤ many ∧ many ≤ 20)
set_option maxRecDepth 100000 in
set_option maxHeartbeats 4000000 in
theorem c_cost {l : Launch} {G : Gt} {B : Nat} {h : hF} {b : Nat} {own per spin jit inn many : Int} (hp : PartAt h b own per spin jit inn many) : Ct l G B yX2_cost cX2_cost 1 (some .long) 0 0 0 [.ref b] h (fun v h' => v = .long (lZ (own + spin)) ∧ h = h') := by
  refine Ct.of (by decide) (Nat.le_of_ble_eq_true rfl) ?_
  intro p e s m below meth c A hX hR hin
  obtain ⟨ci, fs, hci, hb, f1, f2, f3, f4, f5, f6⟩ := hp
  have g22 : FL RX2 22 ci 2 := by rcases hci with rfl | rfl; exact fl_X2_22_4; exact fl_X2_22_6
  have g28 : FL RX2 28 ci 3 := by rcases hci with rfl | rfl; exact fl_X2_28_4; exact fl_X2_28_6
  refine j_aload_n hX dX2_cost_0 rfl ?_
  refine j_get hX g22 dX2_cost_1 hb f2 ?_
  refine j_aload_n hX dX2_cost_4 rfl ?_
  refine j_get hX g28 dX2_cost_5 hb f3 ?_
  refine j_ladd hX dX2_cost_8 ?_
  exact j_lret hX hR dX2_cost_9 ⟨rfl, rfl⟩
set_option maxRecDepth 100000 in
set_option maxHeartbeats 4000000 in
theorem c_acts {l : Launch} {G : Gt} {B : Nat} {h : hF} {b : Nat} {own per spin jit inn many : Int} (hp : PartAt h b own per spin jit inn many) (ho : PartOK own per spin jit inn many) {w : Int} (hw : 0 ≤ w ∧ w ≤ 1000000) : Ct l G B yX2_activationsIn cX2_activationsIn 3 (some .long) 1 0 0 [.ref b, .long (lZ w)] h (fun v h' => v = .long (lZ (acts inn many jit per w)) ∧ h = h') := by
  refine Ct.of (by decide) (Nat.le_of_ble_eq_true rfl) ?_
  intro p e s m below meth c A hX hR hin
  obtain ⟨ci, fs, hci, hb, f1, f2, f3, f4, f5, f6⟩ := hp
  have g9 : FL RX2 9 ci 5 := by rcases hci with rfl | rfl; exact fl_X2_9_4; exact fl_X2_9_6
  have g15 : FL RX2 15 ci 6 := by rcases hci with rfl | rfl; exact fl_X2_15_4; exact fl_X2_15_6
  have g35 : FL RX2 35 ci 4 := by rcases hci with rfl | rfl; exact fl_X2_35_4; exact fl_X2_35_6
  have g25 : FL RX2 25 ci 1 := by rcases hci with rfl | rfl; exact fl_X2_25_4; exact fl_X2_25_6
  obtain ⟨o1, o2, o3, o4, o5, o6⟩ := ho
  refine j_lload_n hX dX2_activationsIn_0 rfl ?_
  refine j_aload_n hX dX2_activationsIn_1 rfl ?_
  refine j_get hX g9 dX2_activationsIn_2 hb f5 ?_
  refine j_callSN hX cn_X2_31 q_294 (c_upwards h w inn (by omega) (by omega)) dX2_activationsIn_5 rfl (by exact ⟨Nat.le_of_ble_eq_true rfl, Nat.le_of_ble_eq_true rfl⟩) (by exact ⟨Nat.le_of_ble_eq_true rfl, Nat.le_of_ble_eq_true rfl⟩) (by exact Nat.le_of_ble_eq_true rfl) (fun v5 h5 hp5 => ?_) rfl
  obtain ⟨rfl, rfl⟩ := hp5
  refine j_aload_n hX dX2_activationsIn_8 rfl ?_
  refine j_get hX g15 dX2_activationsIn_9 hb f6 ?_
  refine j_i2l hX dX2_activationsIn_12 (by omega) ?_
  refine j_lload_n hX dX2_activationsIn_13 rfl ?_
  refine j_aload_n hX dX2_activationsIn_14 rfl ?_
  refine j_get hX g35 dX2_activationsIn_15 hb f4 ?_
  refine j_ladd hX dX2_activationsIn_18 ?_
  refine j_aload_n hX dX2_activationsIn_19 rfl ?_
  refine j_get hX g25 dX2_activationsIn_20 hb f1 ?_
  refine j_callSN hX cn_X2_31 q_294 (c_upwards h (w + jit) per (by omega) (by omega)) dX2_activationsIn_23 rfl (by exact ⟨Nat.le_of_ble_eq_true rfl, Nat.le_of_ble_eq_true rfl⟩) (by exact ⟨Nat.le_of_ble_eq_true rfl, Nat.le_of_ble_eq_true rfl⟩) (by exact Nat.le_of_ble_eq_true rfl) (fun v23 h23 hp23 => ?_) rfl
  obtain ⟨rfl, rfl⟩ := hp23
  refine j_lmul hX dX2_activationsIn_26 ?_
  have b1 := upw_b hw o5.1
  have b2 := upw_b (d := w + jit) (D := 1020000) (b := per) (by omega) o2.1
  have b3 := mulb (a := many) (A := 20) (by omega) b2
  refine j_lmin hX mx_X2_38.1 mx_X2_38.2.1 mx_X2_38.2.2.1 mx_X2_38.2.2.2 dX2_activationsIn_27 (by omega) (by omega) (by exact ⟨Nat.le_of_ble_eq_true rfl, Nat.le_of_ble_eq_true rfl⟩) (by exact ⟨Nat.le_of_ble_eq_true rfl, Nat.le_of_ble_eq_true rfl⟩) ?_
  exact j_lret hX hR dX2_activationsIn_30 ⟨rfl, rfl⟩
set_option maxRecDepth 100000 in
set_option maxHeartbeats 4000000 in
theorem c_later {l : Launch} {G : Gt} {B : Nat} {h : hF} {b : Nat} {own per spin jit inn many : Int} (hp : PartAt h b own per spin jit inn many) (ho : PartOK own per spin jit inn many) {q : Int} (hq : 0 ≤ q ∧ q ≤ 500) : Ct l G B yX2_laterOf cX2_laterOf 4 (some .long) 1 0 0 [.ref b, .int (iZ q)] h (fun v h' => v = .long (lZ (late inn many jit per q)) ∧ h = h') := by
  refine Ct.of (by decide) (Nat.le_of_ble_eq_true rfl) ?_
  intro p e s m below meth c A hX hR hin
  obtain ⟨ci, fs, hci, hb, f1, f2, f3, f4, f5, f6⟩ := hp
  have g9 : FL RX2 9 ci 5 := by rcases hci with rfl | rfl; exact fl_X2_9_4; exact fl_X2_9_6
  have g15 : FL RX2 15 ci 6 := by rcases hci with rfl | rfl; exact fl_X2_15_4; exact fl_X2_15_6
  have g35 : FL RX2 35 ci 4 := by rcases hci with rfl | rfl; exact fl_X2_35_4; exact fl_X2_35_6
  have g25 : FL RX2 25 ci 1 := by rcases hci with rfl | rfl; exact fl_X2_25_4; exact fl_X2_25_6
  obtain ⟨o1, o2, o3, o4, o5, o6⟩ := ho
  have b1 := divb hq (show 0 < many by omega)
  have b2 := mulb b1 (show 0 ≤ per ∧ per ≤ 20000 by omega)
  have b3 := mulb hq (show 0 ≤ inn ∧ inn ≤ 20000 by omega)
  refine j_iload_n hX dX2_laterOf_0 rfl ?_
  refine j_i2l hX dX2_laterOf_1 (by omega) ?_
  refine j_aload_n hX dX2_laterOf_2 rfl ?_
  refine j_get hX g15 dX2_laterOf_3 hb f6 ?_
  refine j_i2l hX dX2_laterOf_6 (by omega) ?_
  refine j_callSN hX cn_X2_43 q_254 (c_whole h q many (by omega) (by omega)) dX2_laterOf_7 rfl (by exact ⟨Nat.le_of_ble_eq_true rfl, Nat.le_of_ble_eq_true rfl⟩) (by exact ⟨Nat.le_of_ble_eq_true rfl, Nat.le_of_ble_eq_true rfl⟩) (by exact Nat.le_of_ble_eq_true rfl) (fun v7 h7 hp7 => ?_) rfl
  obtain ⟨rfl, rfl⟩ := hp7
  refine j_aload_n hX dX2_laterOf_10 rfl ?_
  refine j_get hX g25 dX2_laterOf_11 hb f1 ?_
  refine j_lmul hX dX2_laterOf_14 ?_
  refine j_aload_n hX dX2_laterOf_15 rfl ?_
  refine j_get hX g35 dX2_laterOf_16 hb f4 ?_
  refine j_lsub hX dX2_laterOf_19 ?_
  refine j_lstore_n hX dX2_laterOf_20 (by decide) ?_
  refine j_iload_n hX dX2_laterOf_21 rfl ?_
  refine j_i2l hX dX2_laterOf_22 (by omega) ?_
  refine j_aload_n hX dX2_laterOf_23 rfl ?_
  refine j_get hX g9 dX2_laterOf_24 hb f5 ?_
  refine j_lmul hX dX2_laterOf_27 ?_
  refine j_lload_n hX dX2_laterOf_28 rfl ?_
  refine j_lmax hX mx_X2_46.1 mx_X2_46.2.1 mx_X2_46.2.2.1 mx_X2_46.2.2.2 dX2_laterOf_29 (by omega) (by omega) (by exact ⟨Nat.le_of_ble_eq_true rfl, Nat.le_of_ble_eq_true rfl⟩) (by exact ⟨Nat.le_of_ble_eq_true rfl, Nat.le_of_ble_eq_true rfl⟩) ?_
  refine j_lconst0 hX dX2_laterOf_32 ?_
  refine j_lmax hX mx_X2_46.1 mx_X2_46.2.1 mx_X2_46.2.2.1 mx_X2_46.2.2.2 dX2_laterOf_33 (by split <;> omega) (by omega) (by exact ⟨Nat.le_of_ble_eq_true rfl, Nat.le_of_ble_eq_true rfl⟩) (by exact ⟨Nat.le_of_ble_eq_true rfl, Nat.le_of_ble_eq_true rfl⟩) ?_
  exact j_lret hX hR dX2_laterOf_36 ⟨rfl, rfl⟩
/-- millionths of time that a part takes -/
def loaI (own spin many per : Int) : Int := 1000000 * many * (own + spin) / per
def shaI (own spin many per inn : Int) : Int := if loaI own spin many per < 1000000 * (own + spin) / inn then loaI own spin many per else 1000000 * (own + spin) / inn
set_option maxRecDepth 100000 in
set_option maxHeartbeats 4000000 in
theorem c_load4 {l : Launch} {G : Gt} {B : Nat} {h : hF} {b : Nat} {own per spin jit inn many : Int} (ho : PartOK own per spin jit inn many) (fs : List Value) (hb : h b = some (.inr (4, fs))) (f1 : fs[1]? = some (.long (lZ per))) (f2 : fs[2]? = some (.long (lZ own))) (f3 : fs[3]? = some (.long (lZ spin))) (f4 : fs[4]? = some (.long (lZ jit))) (f5 : fs[5]? = some (.long (lZ inn))) (f6 : fs[6]? = some (.int (iZ many))) : Ct l G B yX2_load cX2_load 1 (some .long) 1 0 0 [.ref b] h (fun v h' => v = .long (lZ (loaI own spin many per)) ∧ h = h') := by
  refine Ct.of (by decide) (Nat.le_of_ble_eq_true rfl) ?_
  intro p e s m below meth c A hX hR hin
  obtain ⟨o1, o2, o3, o4, o5, o6⟩ := ho
  have b1 := mulb (a := 1000000) (A := 1000000) (by omega) (show 0 ≤ many ∧ many ≤ 20 by omega)
  have b2 := mulb b1 (show 0 ≤ own + spin ∧ own + spin ≤ 2000 by omega)
  refine j_ldc2 hX k_X2_49 (z := 1000000) (by decide) dX2_load_0 ?_
  refine j_aload_n hX dX2_load_3 rfl ?_
  refine j_get hX fl_X2_15_4 dX2_load_4 hb f6 ?_
  refine j_i2l hX dX2_load_7 (by omega) ?_
  refine j_lmul hX dX2_load_8 ?_
  refine j_aload_n hX dX2_load_9 rfl ?_
  refine j_callV hX cv_X2_51 (c_cost ⟨4, fs, by decide, hb, f1, f2, f3, f4, f5, f6⟩) dX2_load_10 hb rfl rfl (by exact ⟨Nat.le_of_ble_eq_true rfl, Nat.le_of_ble_eq_true rfl⟩) (by exact ⟨Nat.le_of_ble_eq_true rfl, Nat.le_of_ble_eq_true rfl⟩) (by exact Nat.le_of_ble_eq_true rfl) (fun v10 h10 hp10 => ?_) rfl
  obtain ⟨rfl, rfl⟩ := hp10
  refine j_lmul hX dX2_load_13 ?_
  refine j_aload_n hX dX2_load_14 rfl ?_
  refine j_get hX fl_X2_25_4 dX2_load_15 hb f1 ?_
  refine j_callSN hX cn_X2_43 q_254 (c_whole h (1000000 * many * (own + spin)) per (by omega) (by omega)) dX2_load_18 rfl (by exact ⟨Nat.le_of_ble_eq_true rfl, Nat.le_of_ble_eq_true rfl⟩) (by exact ⟨Nat.le_of_ble_eq_true rfl, Nat.le_of_ble_eq_true rfl⟩) (by exact Nat.le_of_ble_eq_true rfl) (fun v18 h18 hp18 => ?_) rfl
  obtain ⟨rfl, rfl⟩ := hp18
  exact j_lret hX hR dX2_load_21 ⟨rfl, rfl⟩
set_option maxRecDepth 100000 in
set_option maxHeartbeats 4000000 in
theorem c_share4 {l : Launch} {G : Gt} {B : Nat} {h : hF} {b : Nat} {own per spin jit inn many : Int} (ho : PartOK own per spin jit inn many) (fs : List Value) (hb : h b = some (.inr (4, fs))) (f1 : fs[1]? = some (.long (lZ per))) (f2 : fs[2]? = some (.long (lZ own))) (f3 : fs[3]? = some (.long (lZ spin))) (f4 : fs[4]? = some (.long (lZ jit))) (f5 : fs[5]? = some (.long (lZ inn))) (f6 : fs[6]? = some (.int (iZ many))) : Ct l G B yX2_leastShare cX2_leastShare 1 (some .long) 2 0 0 [.ref b] h (fun v h' => v = .long (lZ (shaI own spin many per inn)) ∧ h = h') := by
  refine Ct.of (by decide) (Nat.le_of_ble_eq_true rfl) ?_
  intro p e s m below meth c A hX hR hin
  have ho9 := ho
  obtain ⟨o1, o2, o3, o4, o5, o6⟩ := ho
  have b1 := mulb (a := 1000000) (A := 1000000) (by omega) (show 0 ≤ own + spin ∧ own + spin ≤ 2000 by omega)
  have b2 := divb b1 (show 0 < inn by omega)
  have b3 := mulb (a := 1000000) (A := 1000000) (by omega) (show 0 ≤ many ∧ many ≤ 20 by omega)
  have b4 := mulb b3 (show 0 ≤ own + spin ∧ own + spin ≤ 2000 by omega)
  have b5 : 0 ≤ loaI own spin many per ∧ loaI own spin many per ≤ 1000000 * 20 * 2000 := divb b4 (show 0 < per by omega)
  refine j_ldc2 hX k_X2_49 (z := 1000000) (by decide) dX2_leastShare_0 ?_
  refine j_aload_n hX dX2_leastShare_3 rfl ?_
  refine j_callV hX cv_X2_51 (c_cost ⟨4, fs, by decide, hb, f1, f2, f3, f4, f5, f6⟩) dX2_leastShare_4 hb rfl rfl (by exact ⟨Nat.le_of_ble_eq_true rfl, Nat.le_of_ble_eq_true rfl⟩) (by exact ⟨Nat.le_of_ble_eq_true rfl, Nat.le_of_ble_eq_true rfl⟩) (by exact Nat.le_of_ble_eq_true rfl) (fun v4 h4 hp4 => ?_) rfl
  obtain ⟨rfl, rfl⟩ := hp4
  refine j_lmul hX dX2_leastShare_7 ?_
  refine j_aload_n hX dX2_leastShare_8 rfl ?_
  refine j_get hX fl_X2_9_4 dX2_leastShare_9 hb f5 ?_
  refine j_callSN hX cn_X2_43 q_254 (c_whole h (1000000 * (own + spin)) inn (by omega) (by omega)) dX2_leastShare_12 rfl (by exact ⟨Nat.le_of_ble_eq_true rfl, Nat.le_of_ble_eq_true rfl⟩) (by exact ⟨Nat.le_of_ble_eq_true rfl, Nat.le_of_ble_eq_true rfl⟩) (by exact Nat.le_of_ble_eq_true rfl) (fun v12 h12 hp12 => ?_) rfl
  obtain ⟨rfl, rfl⟩ := hp12
  refine j_aload_n hX dX2_leastShare_15 rfl ?_
  refine j_callV hX cv_X2_55 (c_load4 ho9 fs hb f1 f2 f3 f4 f5 f6) dX2_leastShare_16 hb rfl rfl (by exact ⟨Nat.le_of_ble_eq_true rfl, Nat.le_of_ble_eq_true rfl⟩) (by exact ⟨Nat.le_of_ble_eq_true rfl, Nat.le_of_ble_eq_true rfl⟩) (by exact Nat.le_of_ble_eq_true rfl) (fun v16 h16 hp16 => ?_) rfl
  obtain ⟨rfl, rfl⟩ := hp16
  refine j_lmin hX mx_X2_38.1 mx_X2_38.2.1 mx_X2_38.2.2.1 mx_X2_38.2.2.2 dX2_leastShare_19 (by omega) (by omega) (by exact ⟨Nat.le_of_ble_eq_true rfl, Nat.le_of_ble_eq_true rfl⟩) (by exact ⟨Nat.le_of_ble_eq_true rfl, Nat.le_of_ble_eq_true rfl⟩) ?_
  exact j_lret hX hR dX2_leastShare_22 ⟨rfl, rfl⟩
set_option maxRecDepth 100000 in
set_option maxHeartbeats 4000000 in
theorem c_load6 {l : Launch} {G : Gt} {B : Nat} {h : hF} {b : Nat} {own per spin jit inn many : Int} (ho : PartOK own per spin jit inn many) (fs : List Value) (hb : h b = some (.inr (6, fs))) (f1 : fs[1]? = some (.long (lZ per))) (f2 : fs[2]? = some (.long (lZ own))) (f3 : fs[3]? = some (.long (lZ spin))) (f4 : fs[4]? = some (.long (lZ jit))) (f5 : fs[5]? = some (.long (lZ inn))) (f6 : fs[6]? = some (.int (iZ many))) : Ct l G B yX2_load cX2_load 1 (some .long) 1 0 0 [.ref b] h (fun v h' => v = .long (lZ (loaI own spin many per)) ∧ h = h') := by
  refine Ct.of (by decide) (Nat.le_of_ble_eq_true rfl) ?_
  intro p e s m below meth c A hX hR hin
  obtain ⟨o1, o2, o3, o4, o5, o6⟩ := ho
  have b1 := mulb (a := 1000000) (A := 1000000) (by omega) (show 0 ≤ many ∧ many ≤ 20 by omega)
  have b2 := mulb b1 (show 0 ≤ own + spin ∧ own + spin ≤ 2000 by omega)
  refine j_ldc2 hX k_X2_49 (z := 1000000) (by decide) dX2_load_0 ?_
  refine j_aload_n hX dX2_load_3 rfl ?_
  refine j_get hX fl_X2_15_6 dX2_load_4 hb f6 ?_
  refine j_i2l hX dX2_load_7 (by omega) ?_
  refine j_lmul hX dX2_load_8 ?_
  refine j_aload_n hX dX2_load_9 rfl ?_
  refine j_callU hX cu_X2_51_6 (c_cost ⟨6, fs, by decide, hb, f1, f2, f3, f4, f5, f6⟩) dX2_load_10 hb rfl rfl (by exact ⟨Nat.le_of_ble_eq_true rfl, Nat.le_of_ble_eq_true rfl⟩) (by exact ⟨Nat.le_of_ble_eq_true rfl, Nat.le_of_ble_eq_true rfl⟩) (by exact Nat.le_of_ble_eq_true rfl) (fun v10 h10 hp10 => ?_) rfl
  obtain ⟨rfl, rfl⟩ := hp10
  refine j_lmul hX dX2_load_13 ?_
  refine j_aload_n hX dX2_load_14 rfl ?_
  refine j_get hX fl_X2_25_6 dX2_load_15 hb f1 ?_
  refine j_callSN hX cn_X2_43 q_254 (c_whole h (1000000 * many * (own + spin)) per (by omega) (by omega)) dX2_load_18 rfl (by exact ⟨Nat.le_of_ble_eq_true rfl, Nat.le_of_ble_eq_true rfl⟩) (by exact ⟨Nat.le_of_ble_eq_true rfl, Nat.le_of_ble_eq_true rfl⟩) (by exact Nat.le_of_ble_eq_true rfl) (fun v18 h18 hp18 => ?_) rfl
  obtain ⟨rfl, rfl⟩ := hp18
  exact j_lret hX hR dX2_load_21 ⟨rfl, rfl⟩
set_option maxRecDepth 100000 in
set_option maxHeartbeats 4000000 in
theorem c_share6 {l : Launch} {G : Gt} {B : Nat} {h : hF} {b : Nat} {own per spin jit inn many : Int} (ho : PartOK own per spin jit inn many) (fs : List Value) (hb : h b = some (.inr (6, fs))) (f1 : fs[1]? = some (.long (lZ per))) (f2 : fs[2]? = some (.long (lZ own))) (f3 : fs[3]? = some (.long (lZ spin))) (f4 : fs[4]? = some (.long (lZ jit))) (f5 : fs[5]? = some (.long (lZ inn))) (f6 : fs[6]? = some (.int (iZ many))) : Ct l G B yX2_leastShare cX2_leastShare 1 (some .long) 2 0 0 [.ref b] h (fun v h' => v = .long (lZ (shaI own spin many per inn)) ∧ h = h') := by
  refine Ct.of (by decide) (Nat.le_of_ble_eq_true rfl) ?_
  intro p e s m below meth c A hX hR hin
  have ho9 := ho
  obtain ⟨o1, o2, o3, o4, o5, o6⟩ := ho
  have b1 := mulb (a := 1000000) (A := 1000000) (by omega) (show 0 ≤ own + spin ∧ own + spin ≤ 2000 by omega)
  have b2 := divb b1 (show 0 < inn by omega)
  have b3 := mulb (a := 1000000) (A := 1000000) (by omega) (show 0 ≤ many ∧ many ≤ 20 by omega)
  have b4 := mulb b3 (show 0 ≤ own + spin ∧ own + spin ≤ 2000 by omega)
  have b5 : 0 ≤ loaI own spin many per ∧ loaI own spin many per ≤ 1000000 * 20 * 2000 := divb b4 (show 0 < per by omega)
  refine j_ldc2 hX k_X2_49 (z := 1000000) (by decide) dX2_leastShare_0 ?_
  refine j_aload_n hX dX2_leastShare_3 rfl ?_
  refine j_callU hX cu_X2_51_6 (c_cost ⟨6, fs, by decide, hb, f1, f2, f3, f4, f5, f6⟩) dX2_leastShare_4 hb rfl rfl (by exact ⟨Nat.le_of_ble_eq_true rfl, Nat.le_of_ble_eq_true rfl⟩) (by exact ⟨Nat.le_of_ble_eq_true rfl, Nat.le_of_ble_eq_true rfl⟩) (by exact Nat.le_of_ble_eq_true rfl) (fun v4 h4 hp4 => ?_) rfl
  obtain ⟨rfl, rfl⟩ := hp4
  refine j_lmul hX dX2_leastShare_7 ?_
  refine j_aload_n hX dX2_leastShare_8 rfl ?_
  refine j_get hX fl_X2_9_6 dX2_leastShare_9 hb f5 ?_
  refine j_callSN hX cn_X2_43 q_254 (c_whole h (1000000 * (own + spin)) inn (by omega) (by omega)) dX2_leastShare_12 rfl (by exact ⟨Nat.le_of_ble_eq_true rfl, Nat.le_of_ble_eq_true rfl⟩) (by exact ⟨Nat.le_of_ble_eq_true rfl, Nat.le_of_ble_eq_true rfl⟩) (by exact Nat.le_of_ble_eq_true rfl) (fun v12 h12 hp12 => ?_) rfl
  obtain ⟨rfl, rfl⟩ := hp12
  refine j_aload_n hX dX2_leastShare_15 rfl ?_
  refine j_callU hX cu_X2_55_6 (c_load6 ho9 fs hb f1 f2 f3 f4 f5 f6) dX2_leastShare_16 hb rfl rfl (by exact ⟨Nat.le_of_ble_eq_true rfl, Nat.le_of_ble_eq_true rfl⟩) (by exact ⟨Nat.le_of_ble_eq_true rfl, Nat.le_of_ble_eq_true rfl⟩) (by exact Nat.le_of_ble_eq_true rfl) (fun v16 h16 hp16 => ?_) rfl
  obtain ⟨rfl, rfl⟩ := hp16
  refine j_lmin hX mx_X2_38.1 mx_X2_38.2.1 mx_X2_38.2.2.1 mx_X2_38.2.2.2 dX2_leastShare_19 (by omega) (by omega) (by exact ⟨Nat.le_of_ble_eq_true rfl, Nat.le_of_ble_eq_true rfl⟩) (by exact ⟨Nat.le_of_ble_eq_true rfl, Nat.le_of_ble_eq_true rfl⟩) ?_
  exact j_lret hX hR dX2_leastShare_22 ⟨rfl, rfl⟩
end
section
/-! THE REFERENCE'S OBJECT: rows with natural places; the picture Mo; what it reads -/
section JN
variable {p : Program} {l : Launch} {e : Env} {R : Room} {s : State} {m : MethodId} {args : Array Value} {below : List Frame} {meth : Method} {c : Code} {Q : State → Prop} {nL : Nat} {G : Gt} {A : Nat → Prop} {cells slots pc : Nat} {L : List (Nat × Value)} {st : List Value} {h : hF} {cc : ByteArray} {own : String} {B : Nat}
theorem J_abs {J0 : Nat → Nat → Nat → List (Nat × Value) → List Value → hF → Prop} {cells slots pc : Nat} {L : List (Nat × Value)} {st : List Value} {h : hF} (X : ∀ JX : Nat → Nat → Nat → List (Nat × Value) → List Value → hF → Prop, (∀ {cells slots pc : Nat} {L : List (Nat × Value)} {st : List Value} {h : hF}, J0 cells slots pc L st h → JX cells slots pc L st h) → (∀ {cells slots pc : Nat} {L : List (Nat × Value)} {st : List Value} {h : hF}, JX cells slots pc L st h → J0 cells slots pc L st h) → JX cells slots pc L st h) : J0 cells slots pc L st h := X J0 id id
theorem j_ialdN (hX : CX p s m args c cc nL own G B A) {a n : Nat} {f : Nat → Int} {i : Int} (j : Nat) (hj : i = (j : Int)) (hdg : decode cc pc = .ok (.iaload, 1)) (ha : h a = some (gI G n f)) (hi : j < n) (hn : n ≤ 1000) (kk : J p l e R s m args below meth c Q nL G A cells slots (pc + 1) L (.int (iZ (f j)) :: st) h) : J p l e R s m args below meth c Q nL G A cells slots pc L (.int (iZ i) :: .ref a :: st) h := by
  subst hj
  exact j_iald hX hdg ha ⟨by omega, by omega⟩ (by omega) kk
theorem j_laldN (hX : CX p s m args c cc nL own G B A) {a n : Nat} {f : Nat → Int} {i : Int} (j : Nat) (hj : i = (j : Int)) (hdg : decode cc pc = .ok (.laload, 1)) (ha : h a = some (gJ G n f)) (hi : j < n) (hn : n ≤ 1000) (kk : J p l e R s m args below meth c Q nL G A cells slots (pc + 1) L (.long (lZ (f j)) :: st) h) : J p l e R s m args below meth c Q nL G A cells slots pc L (.int (iZ i) :: .ref a :: st) h := by
  subst hj
  exact j_lald hX hdg ha ⟨by omega, by omega⟩ (by omega) kk
theorem j_zaldN (hX : CX p s m args c cc nL own G B A) {a n : Nat} {f : Nat → Int} {i : Int} (j : Nat) (hj : i = (j : Int)) (hdg : decode cc pc = .ok (.baload, 1)) (ha : h a = some (gZ G n f)) (hi : j < n) (hn : n ≤ 1000) (kk : J p l e R s m args below meth c Q nL G A cells slots (pc + 1) L (.int (iZ (f j)) :: st) h) : J p l e R s m args below meth c Q nL G A cells slots pc L (.int (iZ i) :: .ref a :: st) h := by
  subst hj
  exact j_zald hX hdg ha ⟨by omega, by omega⟩ (by omega) kk
theorem j_aaldN (hX : CX p s m args c cc nL own G B A) {a n : Nat} {f : Nat → Option Nat} {i : Int} (j : Nat) (hj : i = (j : Int)) (hdg : decode cc pc = .ok (.aaload, 1)) (ha : h a = some (gQ G n f)) (hi : j < n) (hn : n ≤ 1000) (kk : J p l e R s m args below meth c Q nL G A cells slots (pc + 1) L (va_rf (f j) :: st) h) : J p l e R s m args below meth c Q nL G A cells slots pc L (.int (iZ i) :: .ref a :: st) h := by
  subst hj
  exact j_aald hX hdg ha ⟨by omega, by omega⟩ (by omega) kk
theorem j_iastN (hX : CX p s m args c cc nL own G B A) {a n : Nat} {f : Nat → Int} {i x : Int} (j : Nat) (hj : i = (j : Int)) (hdg : decode cc pc = .ok (.iastore, 1)) (ha : h a = some (gI G n f)) (hi : j < n) (hn : n ≤ 1000) (kk : J p l e R s m args below meth c Q nL G A cells slots (pc + 1) L st (hup h a (gI G n (zup f j x)))) : J p l e R s m args below meth c Q nL G A cells slots pc L (.int (iZ x) :: .int (iZ i) :: .ref a :: st) h := by
  subst hj
  exact j_iast hX hdg ha ⟨by omega, by omega⟩ (by omega) kk
theorem j_lastN (hX : CX p s m args c cc nL own G B A) {a n : Nat} {f : Nat → Int} {i x : Int} (j : Nat) (hj : i = (j : Int)) (hdg : decode cc pc = .ok (.lastore, 1)) (ha : h a = some (gJ G n f)) (hi : j < n) (hn : n ≤ 1000) (kk : J p l e R s m args below meth c Q nL G A cells slots (pc + 1) L st (hup h a (gJ G n (zup f j x)))) : J p l e R s m args below meth c Q nL G A cells slots pc L (.long (lZ x) :: .int (iZ i) :: .ref a :: st) h := by
  subst hj
  exact j_last hX hdg ha ⟨by omega, by omega⟩ (by omega) kk
theorem j_zastN (hX : CX p s m args c cc nL own G B A) {a n : Nat} {f : Nat → Int} {i x : Int} (j : Nat) (hj : i = (j : Int)) (hdg : decode cc pc = .ok (.bastore, 1)) (ha : h a = some (gZ G n f)) (hi : j < n) (hn : n ≤ 1000) (hx : x = 0 ∨ x = 1) (kk : J p l e R s m args below meth c Q nL G A cells slots (pc + 1) L st (hup h a (gZ G n (zup f j x)))) : J p l e R s m args below meth c Q nL G A cells slots pc L (.int (iZ x) :: .int (iZ i) :: .ref a :: st) h := by
  subst hj
  exact j_zast hX hdg ha ⟨by omega, by omega⟩ (by omega) hx kk
end JN
def isA (k : Nat) : Bool := Nat.ble k 20 && (!(k == 11) && (!(k == 14) && (!(k == 15) && !(k == 16))))
def mcell (G : Gt) (k : Nat) (f : Nat → Int) : va_E := match k with
  | 0 => gJ G 17 f
  | 1 => gJ G 17 f
  | 2 => gI G 17 f
  | 3 => gJ G 17 f
  | 4 => gI G 17 f
  | 5 => gJ G 17 f
  | 6 => gJ G 17 f
  | 7 => gJ G 17 f
  | 8 => gI G 17 f
  | 9 => gI G 170 f
  | 10 => gJ G 170 f
  | 12 => gJ G 9 f
  | 13 => gJ G 9 f
  | 17 => gJ G 4 f
  | 18 => gJ G 4 f
  | 19 => gJ G 4 f
  | 20 => gZ G 4 f
  | _ => gJ G 17 f
abbrev MF (A : Nat → Nat) (n m : Nat) (sp tu th : Int) : List Value := [.ref (A 0), .ref (A 1), .ref (A 2), .ref (A 3), .ref (A 4), .ref (A 5), .ref (A 6), .ref (A 7), .ref (A 8), .ref (A 9), .ref (A 10), .int (iZ (n : Int)), .ref (A 12), .ref (A 13), .int (iZ (m : Int)), .long (lZ sp), .int (iZ tu), .ref (A 17), .ref (A 18), .ref (A 19), .ref (A 20), .int (iZ th)]
/-- the reference's object at b, its arrays at the addresses A, their contents σ -/
def Mo (G : Gt) (h : hF) (b : Nat) (A : Nat → Nat) (σ : St) (n m : Nat) (sp tu th : Int) : Prop := h b = some (.inr (8, MF A n m sp tu th)) ∧ (∀ k : Nat, isA k = true → h (A k) = some (mcell G k (σ k))) ∧ ∀ i j : Nat, isA i = true → isA j = true → A i = A j → i = j
def sup (σ : St) (k : Nat) (f : Nat → Int) : St := fun j => if j = k then f else σ j
theorem sup_eq (σ : St) (k : Nat) (f : Nat → Int) : sup σ k f k = f := by simp [sup]
theorem sup_ne {σ : St} {k : Nat} {f : Nat → Int} {j : Nat} (h : j ≠ k) : sup σ k f j = σ j := by simp [sup, h]
theorem mcell_inl (G : Gt) (k : Nat) (f : Nat → Int) (x : Nat × List Value) : mcell G k f ≠ .inr x := by
  unfold mcell
  split <;> (intro q; cases q)
/-- nothing else was changed -/
def Fm (h h' : hF) (b : Nat) (A : Nat → Nat) : Prop := ∀ a : Nat, a ≠ b → (∀ k : Nat, isA k = true → a ≠ A k) → h' a = h a
theorem Fm.rf (h : hF) (b : Nat) (A : Nat → Nat) : Fm h h b A := fun _ _ _ => rfl
theorem Fm.tr {h h1 h2 : hF} {b : Nat} {A : Nat → Nat} (x : Fm h h1 b A) (y : Fm h1 h2 b A) : Fm h h2 b A := fun a q1 q2 => (y a q1 q2).trans (x a q1 q2)
theorem Fm.b {h h1 : hF} {b : Nat} {A : Nat → Nat} (x : Fm h h1 b A) (e : va_E) : Fm h (hup h1 b e) b A := fun a q1 q2 => by rw [hup_ne q1]; exact x a q1 q2
theorem Fm.a {h h1 : hF} {b : Nat} {A : Nat → Nat} (x : Fm h h1 b A) {k : Nat} (hk : isA k = true) (e : va_E) : Fm h (hup h1 (A k) e) b A := fun a q1 q2 => by rw [hup_ne (q2 k hk)]; exact x a q1 q2
section MO
variable {G : Gt} {h : hF} {b : Nat} {A : Nat → Nat} {σ : St} {n m : Nat} {sp tu th : Int}
theorem Mo.fld (hM : Mo G h b A σ n m sp tu th) {n' m' : Nat} {sp' tu' th' : Int} : Mo G (hup h b (.inr (8, MF A n' m' sp' tu' th'))) b A σ n' m' sp' tu' th' := ⟨hup_eq _ _ _, fun k hk => hup_k (hM.2.1 k hk) hM.1 (mcell_inl _ _ _ _), hM.2.2⟩
theorem Mo.arr (hM : Mo G h b A σ n m sp tu th) {k : Nat} (hk : isA k = true) (f : Nat → Int) : Mo G (hup h (A k) (mcell G k f)) b A (sup σ k f) n m sp tu th := by
  refine ⟨?_, fun j hj => ?_, hM.2.2⟩
  · exact hup_k hM.1 (hM.2.1 k hk) (fun q => mcell_inl _ _ _ _ q.symm)
  · by_cases e : j = k
    · subst e
      rw [sup_eq, hup_eq]
    · rw [sup_ne e, hup_ne (fun q => e (hM.2.2 j k hj hk q))]
      exact hM.2.1 j hj
theorem Mo.a0 (hM : Mo G h b A σ n m sp tu th) : h (A 0) = some (gJ G 17 (σ 0)) := hM.2.1 0 rfl
theorem Mo.a1 (hM : Mo G h b A σ n m sp tu th) : h (A 1) = some (gJ G 17 (σ 1)) := hM.2.1 1 rfl
theorem Mo.a2 (hM : Mo G h b A σ n m sp tu th) : h (A 2) = some (gI G 17 (σ 2)) := hM.2.1 2 rfl
theorem Mo.a3 (hM : Mo G h b A σ n m sp tu th) : h (A 3) = some (gJ G 17 (σ 3)) := hM.2.1 3 rfl
theorem Mo.a4 (hM : Mo G h b A σ n m sp tu th) : h (A 4) = some (gI G 17 (σ 4)) := hM.2.1 4 rfl
theorem Mo.a5 (hM : Mo G h b A σ n m sp tu th) : h (A 5) = some (gJ G 17 (σ 5)) := hM.2.1 5 rfl
theorem Mo.a6 (hM : Mo G h b A σ n m sp tu th) : h (A 6) = some (gJ G 17 (σ 6)) := hM.2.1 6 rfl
theorem Mo.a7 (hM : Mo G h b A σ n m sp tu th) : h (A 7) = some (gJ G 17 (σ 7)) := hM.2.1 7 rfl
theorem Mo.a8 (hM : Mo G h b A σ n m sp tu th) : h (A 8) = some (gI G 17 (σ 8)) := hM.2.1 8 rfl
theorem Mo.a9 (hM : Mo G h b A σ n m sp tu th) : h (A 9) = some (gI G 170 (σ 9)) := hM.2.1 9 rfl
theorem Mo.a10 (hM : Mo G h b A σ n m sp tu th) : h (A 10) = some (gJ G 170 (σ 10)) := hM.2.1 10 rfl
theorem Mo.a12 (hM : Mo G h b A σ n m sp tu th) : h (A 12) = some (gJ G 9 (σ 12)) := hM.2.1 12 rfl
theorem Mo.a13 (hM : Mo G h b A σ n m sp tu th) : h (A 13) = some (gJ G 9 (σ 13)) := hM.2.1 13 rfl
theorem Mo.a17 (hM : Mo G h b A σ n m sp tu th) : h (A 17) = some (gJ G 4 (σ 17)) := hM.2.1 17 rfl
theorem Mo.a18 (hM : Mo G h b A σ n m sp tu th) : h (A 18) = some (gJ G 4 (σ 18)) := hM.2.1 18 rfl
theorem Mo.a19 (hM : Mo G h b A σ n m sp tu th) : h (A 19) = some (gJ G 4 (σ 19)) := hM.2.1 19 rfl
theorem Mo.a20 (hM : Mo G h b A σ n m sp tu th) : h (A 20) = some (gZ G 4 (σ 20)) := hM.2.1 20 rfl
end MO
set_option maxRecDepth 100000 in
set_option maxHeartbeats 4000000 in
theorem c6_isTask {l : Launch} {G : Gt} {B : Nat} {h : hF} {b : Nat} {A9 : Nat → Nat} {σ : St} {n m : Nat} {sp tu th : Int} (hM : Mo G h b A9 σ n m sp tu th) (hn16 : n ≤ 16) {z : Int} (hz : -2147483648 ≤ z ∧ z < 2147483648) : Ct l G B yX6_isTask cX6_isTask 2 (some .boolean) 0 0 0 [.ref b, .int (iZ z)] h (fun v h' => v = .int (iZ (if 1 ≤ z ∧ z ≤ n then 1 else 0)) ∧ h = h') := by
  refine Ct.of (by decide) (Nat.le_of_ble_eq_true rfl) ?_
  intro p e s m9 below meth c A hX hR hin
  have h_M := hM.1
  refine j_iload_n hX dX6_isTask_0 rfl ?_
  refine j_iconst hX dX6_isTask_1 ?_
  refine j_icmp_lt hX 17 dX6_isTask_2 (by decide) (by omega) (by omega) (fun c2 => ?_) (fun c2 => ?_)
  · refine j_iconst hX dX6_isTask_17 ?_
    exact j_zret hX hR dX6_isTask_18 (by omega) ⟨by first | rw [if_pos (by omega)] | rw [if_neg (by omega)], rfl⟩
  · refine j_iload_n hX dX6_isTask_5 rfl ?_
    refine j_aload_n hX dX6_isTask_6 rfl ?_
    refine j_get hX fl_X6_67_8 dX6_isTask_7 h_M (by rfl) ?_
    refine j_icmp_gt hX 17 dX6_isTask_10 (by decide) (by omega) (by omega) (fun c10 => ?_) (fun c10 => ?_)
    · refine j_iconst hX dX6_isTask_17 ?_
      exact j_zret hX hR dX6_isTask_18 (by omega) ⟨by first | rw [if_pos (by omega)] | rw [if_neg (by omega)], rfl⟩
    · refine j_iconst hX dX6_isTask_13 ?_
      refine j_goto hX 18 dX6_isTask_14 (by decide) ?_
      exact j_zret hX hR dX6_isTask_18 (by omega) ⟨by first | rw [if_pos (by omega)] | rw [if_neg (by omega)], rfl⟩
set_option maxRecDepth 100000 in
set_option maxHeartbeats 4000000 in
theorem c6_within {l : Launch} {G : Gt} {B : Nat} {h : hF} {x lo hi : Int} (hx : -9223372036854775808 ≤ x ∧ x < 9223372036854775808) (hlo : -9223372036854775808 ≤ lo ∧ lo < 9223372036854775808) (hhi : -9223372036854775808 ≤ hi ∧ hi < 9223372036854775808) : Ct l G B yX6_within cX6_within 6 (some .boolean) 0 0 0 [.long (lZ x), .long (lZ lo), .long (lZ hi)] h (fun v h' => v = .int (iZ (if lo ≤ x ∧ x ≤ hi then 1 else 0)) ∧ h = h') := by
  refine Ct.of (by decide) (Nat.le_of_ble_eq_true rfl) ?_
  intro p e s m9 below meth c A hX hR hin
  refine j_lload_n hX dX6_within_0 rfl ?_
  refine j_lload_n hX dX6_within_1 rfl ?_
  refine j_lcmp_lt hX 17 dX6_within_2 dX6_within_3 (by decide) (by omega) (by omega) (fun c2 => ?_) (fun c2 => ?_)
  · refine j_iconst hX dX6_within_17 ?_
    exact j_zret hX hR dX6_within_18 (by omega) ⟨by first | rw [if_pos (by omega)] | rw [if_neg (by omega)], rfl⟩
  · refine j_lload_n hX dX6_within_6 rfl ?_
    refine j_lload hX dX6_within_7 rfl ?_
    refine j_lcmp_gt hX 17 dX6_within_9 dX6_within_10 (by decide) (by omega) (by omega) (fun c9 => ?_) (fun c9 => ?_)
    · refine j_iconst hX dX6_within_17 ?_
      exact j_zret hX hR dX6_within_18 (by omega) ⟨by first | rw [if_pos (by omega)] | rw [if_neg (by omega)], rfl⟩
    · refine j_iconst hX dX6_within_13 ?_
      refine j_goto hX 18 dX6_within_14 (by decide) ?_
      exact j_zret hX hR dX6_within_18 (by omega) ⟨by first | rw [if_pos (by omega)] | rw [if_neg (by omega)], rfl⟩
set_option maxRecDepth 100000 in
set_option maxHeartbeats 4000000 in
theorem c6_upwards {l : Launch} {G : Gt} {B : Nat} {h : hF} {d b : Int} (hd : 0 ≤ d ∧ d ≤ 1000000000000000) (hb : 1 ≤ b ∧ b ≤ 1000000000000) : Ct l G B yX6_upwards cX6_upwards 4 (some .long) 0 0 0 [.long (lZ d), .long (lZ b)] h (fun v h' => v = .long (lZ (upw d b)) ∧ h = h') := by
  refine Ct.of (by decide) (Nat.le_of_ble_eq_true rfl) ?_
  intro p e s m9 below meth c A hX hR hin
  have e1 := upw_rem (d := d) hb.1
  have e2 := divb hd (show 0 < b by omega)
  have e3 := Int.emod_nonneg d (show b ≠ 0 by omega)
  have e4 := Int.emod_lt_of_pos d (show 0 < b by omega)
  refine j_lload_n hX dX6_upwards_0 rfl ?_
  refine j_lload_n hX dX6_upwards_1 rfl ?_
  refine j_lrem hX dX6_upwards_2 (by omega) (by omega) ?_
  refine j_lconst0 hX dX6_upwards_3 ?_
  refine j_lcmp_ne hX 14 dX6_upwards_4 dX6_upwards_5 (by decide) (by omega) (by omega) (fun c4 => ?_) (fun c4 => ?_)
  · refine j_lload_n hX dX6_upwards_14 rfl ?_
    refine j_lload_n hX dX6_upwards_15 rfl ?_
    refine j_ldiv hX dX6_upwards_16 (by omega) (by omega) ?_
    refine j_lconst1 hX dX6_upwards_17 ?_
    refine j_ladd hX dX6_upwards_18 ?_
    exact j_lret hX hR dX6_upwards_19 ⟨by rw [← e1]; first | rw [if_pos (by omega)] | rw [if_neg (by omega)], rfl⟩
  · refine j_lload_n hX dX6_upwards_8 rfl ?_
    refine j_lload_n hX dX6_upwards_9 rfl ?_
    refine j_ldiv hX dX6_upwards_10 (by omega) (by omega) ?_
    refine j_goto hX 19 dX6_upwards_11 (by decide) ?_
    exact j_lret hX hR dX6_upwards_19 ⟨by rw [← e1]; first | rw [if_pos (by omega)] | rw [if_neg (by omega)], rfl⟩
set_option maxRecDepth 100000 in
set_option maxHeartbeats 4000000 in
theorem c6_cost {l : Launch} {G : Gt} {B : Nat} {h : hF} {b : Nat} {A9 : Nat → Nat} {σ : St} {n m : Nat} {sp tu th : Int} (hM : Mo G h b A9 σ n m sp tu th) {t : Nat} (ht : 1 ≤ t ∧ t ≤ n) (hO : OK n m σ) : Ct l G B yX6_cost cX6_cost 2 (some .long) 0 0 0 [.ref b, .int (iZ (t : Int))] h (fun v h' => v = .long (lZ (cosT σ t)) ∧ h = h') := by
  refine Ct.of (by decide) (Nat.le_of_ble_eq_true rfl) ?_
  intro p e s m9 below meth c A hX hR hin
  have h_M := hM.1
  have h_a0 := hM.a0
  have h_a6 := hM.a6
  have hn16 := hO.1
  have hm8 := hO.2.1
  refine j_aload_n hX dX6_cost_0 rfl ?_
  refine j_get hX fl_X6_7_8 dX6_cost_1 h_M (by rfl) ?_
  refine j_iload_n hX dX6_cost_4 rfl ?_
  refine j_laldN hX _ rfl dX6_cost_5 h_a0 (by omega) (by decide) ?_
  refine j_aload_n hX dX6_cost_6 rfl ?_
  refine j_get hX fl_X6_29_8 dX6_cost_7 h_M (by rfl) ?_
  refine j_iload_n hX dX6_cost_10 rfl ?_
  refine j_laldN hX _ rfl dX6_cost_11 h_a6 (by omega) (by decide) ?_
  refine j_ladd hX dX6_cost_12 ?_
  exact j_lret hX hR dX6_cost_13 ⟨rfl, rfl⟩
set_option maxRecDepth 100000 in
set_option maxHeartbeats 4000000 in
theorem c6_comes {l : Launch} {G : Gt} {B : Nat} {h : hF} {b : Nat} {A9 : Nat → Nat} {σ : St} {n m : Nat} {sp tu th : Int} (hM : Mo G h b A9 σ n m sp tu th) {t : Nat} (ht : 1 ≤ t ∧ t ≤ n) (hO : OK n m σ) {w : Int} (hw : 0 ≤ w ∧ w ≤ 1000000) : Ct l G B yX6_comes cX6_comes 8 (some .long) 1 0 0 [.ref b, .int (iZ (t : Int)), .long (lZ w)] h (fun v h' => v = .long (lZ (actT σ t w)) ∧ h = h') := by
  refine Ct.of (by decide) (Nat.le_of_ble_eq_true rfl) ?_
  intro p e s m9 below meth c A hX hR hin
  have h_M := hM.1
  have h_a1 := hM.a1
  have h_a3 := hM.a3
  have h_a4 := hM.a4
  have h_a5 := hM.a5
  have hn16 := hO.1
  have hm8 := hO.2.1
  obtain ⟨o0, o1, o2, o3, o4, o5, o6, o7, o8, o9⟩ := hO.2.2.1 t ht.1 ht.2
  have u1 := upw_b hw o5.1
  have u2 := upw_b (d := w + σ 3 t) (D := 1020000) (b := σ 1 t) (by omega) o1.1
  have u3 := mulb (a := σ 4 t) (A := 20) (by omega) u2
  refine j_lload_n hX dX6_comes_0 rfl ?_
  refine j_aload_n hX dX6_comes_1 rfl ?_
  refine j_get hX fl_X6_26_8 dX6_comes_2 h_M (by rfl) ?_
  refine j_iload_n hX dX6_comes_5 rfl ?_
  refine j_laldN hX _ rfl dX6_comes_6 h_a5 (by omega) (by decide) ?_
  refine j_callS hX cs_X6_93 (c6_upwards (by omega) (by omega)) dX6_comes_7 rfl (by exact ⟨Nat.le_of_ble_eq_true rfl, Nat.le_of_ble_eq_true rfl⟩) (by exact ⟨Nat.le_of_ble_eq_true rfl, Nat.le_of_ble_eq_true rfl⟩) (by exact Nat.le_of_ble_eq_true rfl) (fun v7 h7 hp7 => ?_) rfl
  obtain ⟨rfl, rfl⟩ := hp7
  refine j_lstore hX dX6_comes_10 (by decide) ?_
  refine j_aload_n hX dX6_comes_12 rfl ?_
  refine j_get hX fl_X6_23_8 dX6_comes_13 h_M (by rfl) ?_
  refine j_iload_n hX dX6_comes_16 rfl ?_
  refine j_ialdN hX _ rfl dX6_comes_17 h_a4 (by omega) (by decide) ?_
  refine j_i2l hX dX6_comes_18 (by omega) ?_
  refine j_lload_n hX dX6_comes_19 rfl ?_
  refine j_aload_n hX dX6_comes_20 rfl ?_
  refine j_get hX fl_X6_20_8 dX6_comes_21 h_M (by rfl) ?_
  refine j_iload_n hX dX6_comes_24 rfl ?_
  refine j_laldN hX _ rfl dX6_comes_25 h_a3 (by omega) (by decide) ?_
  refine j_ladd hX dX6_comes_26 ?_
  refine j_aload_n hX dX6_comes_27 rfl ?_
  refine j_get hX fl_X6_13_8 dX6_comes_28 h_M (by rfl) ?_
  refine j_iload_n hX dX6_comes_31 rfl ?_
  refine j_laldN hX _ rfl dX6_comes_32 h_a1 (by omega) (by decide) ?_
  refine j_callS hX cs_X6_93 (c6_upwards (by omega) (by omega)) dX6_comes_33 rfl (by exact ⟨Nat.le_of_ble_eq_true rfl, Nat.le_of_ble_eq_true rfl⟩) (by exact ⟨Nat.le_of_ble_eq_true rfl, Nat.le_of_ble_eq_true rfl⟩) (by exact Nat.le_of_ble_eq_true rfl) (fun v33 h33 hp33 => ?_) rfl
  obtain ⟨rfl, rfl⟩ := hp33
  refine j_lmul hX dX6_comes_36 ?_
  refine j_lstore hX dX6_comes_37 (by decide) ?_
  refine j_lload hX dX6_comes_39 rfl ?_
  refine j_lload hX dX6_comes_41 rfl ?_
  refine j_lcmp_ge hX 52 dX6_comes_43 dX6_comes_44 (by decide) (by omega) (by omega) (fun c43 => ?_) (fun c43 => ?_)
  · refine j_lload hX dX6_comes_52 rfl ?_
    exact j_lret hX hR dX6_comes_54 ⟨by unfold actT acts; split <;> first | rfl | (congr 2; omega), rfl⟩
  · refine j_lload hX dX6_comes_47 rfl ?_
    refine j_goto hX 54 dX6_comes_49 (by decide) ?_
    exact j_lret hX hR dX6_comes_54 ⟨by unfold actT acts; split <;> first | rfl | (congr 2; omega), rfl⟩
set_option maxRecDepth 100000 in
set_option maxHeartbeats 4000000 in
theorem c6_later {l : Launch} {G : Gt} {B : Nat} {h : hF} {b : Nat} {A9 : Nat → Nat} {σ : St} {n m : Nat} {sp tu th : Int} (hM : Mo G h b A9 σ n m sp tu th) {t : Nat} (ht : 1 ≤ t ∧ t ≤ n) (hO : OK n m σ) {q : Int} (hq : 0 ≤ q ∧ q ≤ 500) : Ct l G B yX6_later cX6_later 7 (some .long) 0 0 0 [.ref b, .int (iZ (t : Int)), .int (iZ q)] h (fun v h' => v = .long (lZ (latT σ t q)) ∧ h = h') := by
  refine Ct.of (by decide) (Nat.le_of_ble_eq_true rfl) ?_
  intro p e s m9 below meth c A hX hR hin
  have h_M := hM.1
  have h_a1 := hM.a1
  have h_a3 := hM.a3
  have h_a4 := hM.a4
  have h_a5 := hM.a5
  have hn16 := hO.1
  have hm8 := hO.2.1
  obtain ⟨o0, o1, o2, o3, o4, o5, o6, o7, o8, o9⟩ := hO.2.2.1 t ht.1 ht.2
  have b1 := divb hq (show 0 < σ 4 t by omega)
  have b2 := mulb b1 (show 0 ≤ σ 1 t ∧ σ 1 t ≤ 20000 by omega)
  have b3 := mulb hq (show 0 ≤ σ 5 t ∧ σ 5 t ≤ 20000 by omega)
  refine j_iload_n hX dX6_later_0 rfl ?_
  refine j_i2l hX dX6_later_1 (by omega) ?_
  refine j_aload_n hX dX6_later_2 rfl ?_
  refine j_get hX fl_X6_26_8 dX6_later_3 h_M (by rfl) ?_
  refine j_iload_n hX dX6_later_6 rfl ?_
  refine j_laldN hX _ rfl dX6_later_7 h_a5 (by omega) (by decide) ?_
  refine j_lmul hX dX6_later_8 ?_
  refine j_lstore_n hX dX6_later_9 (by decide) ?_
  refine j_iload_n hX dX6_later_10 rfl ?_
  refine j_aload_n hX dX6_later_11 rfl ?_
  refine j_get hX fl_X6_23_8 dX6_later_12 h_M (by rfl) ?_
  refine j_iload_n hX dX6_later_15 rfl ?_
  refine j_ialdN hX _ rfl dX6_later_16 h_a4 (by omega) (by decide) ?_
  refine j_idiv hX dX6_later_17 (by omega) (by omega) ?_
  refine j_i2l hX dX6_later_18 (by omega) ?_
  refine j_aload_n hX dX6_later_19 rfl ?_
  refine j_get hX fl_X6_13_8 dX6_later_20 h_M (by rfl) ?_
  refine j_iload_n hX dX6_later_23 rfl ?_
  refine j_laldN hX _ rfl dX6_later_24 h_a1 (by omega) (by decide) ?_
  refine j_lmul hX dX6_later_25 ?_
  refine j_aload_n hX dX6_later_26 rfl ?_
  refine j_get hX fl_X6_20_8 dX6_later_27 h_M (by rfl) ?_
  refine j_iload_n hX dX6_later_30 rfl ?_
  refine j_laldN hX _ rfl dX6_later_31 h_a3 (by omega) (by decide) ?_
  refine j_lsub hX dX6_later_32 ?_
  refine j_lstore hX dX6_later_33 (by decide) ?_
  refine j_lload hX dX6_later_35 rfl ?_
  refine j_lload_n hX dX6_later_37 rfl ?_
  refine j_lcmp_le hX 47 dX6_later_38 dX6_later_39 (by decide) (by omega) (by omega) (fun c38 => ?_) (fun c38 => ?_)
  · refine j_lload_n hX dX6_later_47 rfl ?_
    refine j_lstore_n hX dX6_later_48 (by decide) ?_
    refine j_lload_n hX dX6_later_49 rfl ?_
    refine j_lconst0 hX dX6_later_50 ?_
    refine j_lcmp_le hX 59 dX6_later_51 dX6_later_52 (by decide) (by omega) (by omega) (fun c51 => ?_) (fun c51 => ?_)
    · refine j_lconst0 hX dX6_later_59 ?_
      exact j_lret hX hR dX6_later_60 ⟨by unfold latT late; congr 2; (repeat' split) <;> omega, rfl⟩
    · refine j_lload_n hX dX6_later_55 rfl ?_
      refine j_goto hX 60 dX6_later_56 (by decide) ?_
      exact j_lret hX hR dX6_later_60 ⟨by unfold latT late; congr 2; (repeat' split) <;> omega, rfl⟩
  · refine j_lload hX dX6_later_42 rfl ?_
    refine j_goto hX 48 dX6_later_44 (by decide) ?_
    refine j_lstore_n hX dX6_later_48 (by decide) ?_
    refine j_lload_n hX dX6_later_49 rfl ?_
    refine j_lconst0 hX dX6_later_50 ?_
    refine j_lcmp_le hX 59 dX6_later_51 dX6_later_52 (by decide) (by omega) (by omega) (fun c51 => ?_) (fun c51 => ?_)
    · refine j_lconst0 hX dX6_later_59 ?_
      exact j_lret hX hR dX6_later_60 ⟨by unfold latT late; congr 2; (repeat' split) <;> omega, rfl⟩
    · refine j_lload_n hX dX6_later_55 rfl ?_
      refine j_goto hX 60 dX6_later_56 (by decide) ?_
      exact j_lret hX hR dX6_later_60 ⟨by unfold latT late; congr 2; (repeat' split) <;> omega, rfl⟩
end
section
/-! THE REFERENCE: reaches, blocking, need, load -/
def rchU (σ : St) (n : Nat) (r k : Int) (t j : Nat) : Prop := ∃ o i : Nat, 1 ≤ o ∧ o ≤ n ∧ (o < t ∨ (o = t ∧ i < j)) ∧ (i : Int) < σ 8 o ∧ k ≤ σ 2 o ∧ σ 9 (10 * o - 10 + i) = r
theorem rchU_step {σ : St} {n : Nat} {r k : Int} {t j : Nat} (ht : 1 ≤ t ∧ t ≤ n) (hj : (j : Int) < σ 8 t) : rchU σ n r k t (j + 1) ↔ rchU σ n r k t j ∨ (k ≤ σ 2 t ∧ σ 9 (10 * t - 10 + j) = r) := by
  constructor
  · rintro ⟨o, i, h1, h2, h3, h4, h5, h6⟩
    by_cases e : o = t ∧ i = j
    · obtain ⟨rfl, rfl⟩ := e
      exact Or.inr ⟨h5, h6⟩
    · exact Or.inl ⟨o, i, h1, h2, by omega, h4, h5, h6⟩
  · rintro (⟨o, i, h1, h2, h3, h4, h5, h6⟩ | ⟨h5, h6⟩)
    · exact ⟨o, i, h1, h2, by omega, h4, h5, h6⟩
    · exact ⟨t, j, ht.1, ht.2, by omega, hj, h5, h6⟩
theorem rchU_next {σ : St} {n : Nat} {r k : Int} {t j : Nat} (hj : (j : Int) = σ 8 t) : rchU σ n r k t j ↔ rchU σ n r k (t + 1) 0 := by
  constructor
  · rintro ⟨o, i, h1, h2, h3, h4, h5, h6⟩
    exact ⟨o, i, h1, h2, by omega, h4, h5, h6⟩
  · rintro ⟨o, i, h1, h2, h3, h4, h5, h6⟩
    refine ⟨o, i, h1, h2, ?_, h4, h5, h6⟩
    rcases h3 with h3 | h3
    · by_cases e : o = t
      · subst e; exact Or.inr ⟨rfl, by omega⟩
      · exact Or.inl (by omega)
    · omega
theorem rchU_zero {σ : St} {n : Nat} {r k : Int} : ¬ rchU σ n r k 1 0 := by
  rintro ⟨o, i, h1, h2, h3, h4, h5, h6⟩; omega
theorem rchU_all {σ : St} {n : Nat} {r k : Int} : rchU σ n r k (n + 1) 0 ↔ reach σ n r k := by
  constructor
  · rintro ⟨o, i, h1, h2, h3, h4, h5, h6⟩; exact ⟨o, i, h1, h2, h4, h5, h6⟩
  · rintro ⟨o, i, h1, h2, h4, h5, h6⟩; exact ⟨o, i, h1, h2, Or.inl (by omega), h4, h5, h6⟩
/-- a flag of a proposition -/
def flg (x : Int) (P : Prop) : Prop := (x = 1 ∧ P) ∨ (x = 0 ∧ ¬ P)
theorem flg.iff {x : Int} {P Q : Prop} (h : flg x P) (e : P ↔ Q) : flg x Q := by
  rcases h with ⟨a, b⟩ | ⟨a, b⟩
  · exact Or.inl ⟨a, e.mp b⟩
  · exact Or.inr ⟨a, fun z => b (e.mpr z)⟩
set_option maxRecDepth 100000 in
set_option maxHeartbeats 4000000 in
theorem c6_reaches {l : Launch} {G : Gt} {B : Nat} {h : hF} {b : Nat} {A9 : Nat → Nat} {σ : St} {n m : Nat} {sp tu th : Int} (hM : Mo G h b A9 σ n m sp tu th) (hO : OK n m σ) {r k : Int} (hr : 0 ≤ r ∧ r ≤ 1000) (hk : 0 ≤ k ∧ k ≤ 1000) : Ct l G B yX6_reaches cX6_reaches 6 (some .boolean) 0 0 0 [.ref b, .int (iZ r), .int (iZ k)] h (fun v h' => (∃ x : Int, v = .int (iZ x) ∧ flg x (reach σ n r k)) ∧ h = h') := by
  refine Ct.of (by decide) (Nat.le_of_ble_eq_true rfl) ?_
  intro p e s m9 below meth c A hX hR hin
  have h_M := hM.1
  have h_a2 := hM.a2
  have h_a8 := hM.a8
  have h_a9 := hM.a9
  have hn16 := hO.1
  have hm8 := hO.2.1
  refine J_abs (J0 := J p l e _ s m9 _ below meth c _ _ G A) ?_
  intro JX hji hjo
  have lp : ∀ (d t : Nat) (x : Int), d + t = n + 1 → 1 ≤ t → flg x (rchU σ n r k t 0) → JX 0 0 5 [(0, .ref b), (1, .int (iZ r)), (2, .int (iZ k)), (3, .int (iZ x)), (4, .int (iZ ((t : Nat) : Int)))] [] h := by
    intro d
    induction d with
    | zero =>
      intro t x hd ht hx
      refine hji ?_
      refine j_iload hX dX6_reaches_5 rfl ?_
      refine j_aload_n hX dX6_reaches_7 rfl ?_
      refine j_get hX fl_X6_67_8 dX6_reaches_8 h_M (by rfl) ?_
      refine j_icmp_gt hX 82 dX6_reaches_11 (by decide) (by omega) (by omega) (fun c11 => ?_) (fun c11 => absurd c11 (by omega))
      refine j_iload_n hX dX6_reaches_82 rfl ?_
      exact j_zret hX hR dX6_reaches_83 (by rcases hx with ⟨z, _⟩ | ⟨z, _⟩ <;> omega) ⟨⟨x, rfl, hx.iff (by rw [show t = n + 1 by omega]; exact rchU_all)⟩, rfl⟩
    | succ d ih =>
      intro t x hd ht hx
      obtain ⟨o0, o1, o2, o3, o4, o5, o6, o7, o8, o9⟩ := hO.2.2.1 t (by omega) (by omega)
      have lq : ∀ (f j : Nat) (x : Int), (f : Int) + (j : Int) = σ 8 t → flg x (rchU σ n r k t j) → JX 0 0 17 [(0, .ref b), (1, .int (iZ r)), (2, .int (iZ k)), (3, .int (iZ x)), (4, .int (iZ ((t : Nat) : Int))), (5, .int (iZ ((j : Nat) : Int)))] [] h := by
        intro f
        induction f with
        | zero =>
          intro j x hf hx
          refine hji ?_
          refine j_iload hX dX6_reaches_17 rfl ?_
          refine j_aload_n hX dX6_reaches_19 rfl ?_
          refine j_get hX fl_X6_35_8 dX6_reaches_20 h_M (by rfl) ?_
          refine j_iload hX dX6_reaches_23 rfl ?_
          refine j_ialdN hX _ rfl dX6_reaches_25 h_a8 (by omega) (by decide) ?_
          refine j_icmp_ge hX 76 dX6_reaches_26 (by decide) (by omega) (by omega) (fun c26 => ?_) (fun c26 => absurd c26 (by omega))
          refine j_iinc hX dX6_reaches_76 rfl (by decide) ?_
          refine j_goto hX 5 dX6_reaches_79 (by decide) ?_
          exact j_at (L' := [(0, .ref b), (1, .int (iZ r)), (2, .int (iZ k)), (3, .int (iZ x)), (4, .int (iZ (((t + 1) : Nat) : Int)))]) (hjo (ih (t + 1) x (by omega) (by omega) (hx.iff (rchU_next (by omega))))) ⟨rfl, rfl, rfl, rfl, rfl, trivial⟩
        | succ f ih2 =>
          intro j x hf hx
          have hjl : (j : Int) < σ 8 t := by omega
          have o9 := o9 j hjl
          refine hji ?_
          have hx1 : x = 0 ∨ x = 1 := by rcases hx with ⟨z, _⟩ | ⟨z, _⟩ <;> omega
          refine j_iload hX dX6_reaches_17 rfl ?_
          refine j_aload_n hX dX6_reaches_19 rfl ?_
          refine j_get hX fl_X6_35_8 dX6_reaches_20 h_M (by rfl) ?_
          refine j_iload hX dX6_reaches_23 rfl ?_
          refine j_ialdN hX _ rfl dX6_reaches_25 h_a8 (by omega) (by decide) ?_
          refine j_icmp_ge hX 76 dX6_reaches_26 (by decide) (by omega) (by omega) (fun c26 => absurd c26 (by omega)) (fun c26 => ?_)
          refine j_iload_n hX dX6_reaches_29 rfl ?_
          refine j_if_ne hX 64 dX6_reaches_30 (by decide) (by omega) (fun c30 => ?_) (fun c30 => ?_)
          · refine j_iconst hX dX6_reaches_64 ?_
            refine j_goto hX 69 dX6_reaches_65 (by decide) ?_
            refine j_istore_n hX dX6_reaches_69 (by decide) ?_
            refine j_iinc hX dX6_reaches_70 rfl (by decide) ?_
            refine j_goto hX 17 dX6_reaches_73 (by decide) ?_
            exact j_at (L' := [(0, .ref b), (1, .int (iZ r)), (2, .int (iZ k)), (3, .int (iZ _)), (4, .int (iZ ((t : Nat) : Int))), (5, .int (iZ (((j + 1) : Nat) : Int)))]) (hjo (ih2 (j + 1) _ (by omega) (by first | exact (Or.inl ⟨rfl, (rchU_step (by omega) (by omega)).mpr (Or.inl (by rcases hx with ⟨_, z⟩ | ⟨z, _⟩; exact z; exact absurd z c30))⟩) | exact (Or.inl ⟨rfl, (rchU_step (by omega) (by omega)).mpr (Or.inr ⟨by omega, by omega⟩)⟩) | exact Or.inr ⟨rfl, fun z => by rcases (rchU_step (by omega) (by omega)).mp z with z | ⟨z1, z2⟩; (rcases hx with ⟨z9, _⟩ | ⟨_, z9⟩; omega; exact z9 z); omega⟩))) ⟨rfl, rfl, rfl, rfl, rfl, rfl, trivial⟩
          · refine j_aload_n hX dX6_reaches_33 rfl ?_
            refine j_get hX fl_X6_16_8 dX6_reaches_34 h_M (by rfl) ?_
            refine j_iload hX dX6_reaches_37 rfl ?_
            refine j_ialdN hX _ rfl dX6_reaches_39 h_a2 (by omega) (by decide) ?_
            refine j_iload_n hX dX6_reaches_40 rfl ?_
            refine j_icmp_lt hX 68 dX6_reaches_41 (by decide) (by omega) (by omega) (fun c41 => ?_) (fun c41 => ?_)
            · refine j_iconst hX dX6_reaches_68 ?_
              refine j_istore_n hX dX6_reaches_69 (by decide) ?_
              refine j_iinc hX dX6_reaches_70 rfl (by decide) ?_
              refine j_goto hX 17 dX6_reaches_73 (by decide) ?_
              exact j_at (L' := [(0, .ref b), (1, .int (iZ r)), (2, .int (iZ k)), (3, .int (iZ _)), (4, .int (iZ ((t : Nat) : Int))), (5, .int (iZ (((j + 1) : Nat) : Int)))]) (hjo (ih2 (j + 1) _ (by omega) (by first | exact (Or.inl ⟨rfl, (rchU_step (by omega) (by omega)).mpr (Or.inl (by rcases hx with ⟨_, z⟩ | ⟨z, _⟩; exact z; exact absurd z c30))⟩) | exact (Or.inl ⟨rfl, (rchU_step (by omega) (by omega)).mpr (Or.inr ⟨by omega, by omega⟩)⟩) | exact Or.inr ⟨rfl, fun z => by rcases (rchU_step (by omega) (by omega)).mp z with z | ⟨z1, z2⟩; (rcases hx with ⟨z9, _⟩ | ⟨_, z9⟩; omega; exact z9 z); omega⟩))) ⟨rfl, rfl, rfl, rfl, rfl, rfl, trivial⟩
            · refine j_aload_n hX dX6_reaches_44 rfl ?_
              refine j_get hX fl_X6_38_8 dX6_reaches_45 h_M (by rfl) ?_
              refine j_bipush hX dX6_reaches_48 (by decide) ?_
              refine j_iload hX dX6_reaches_50 rfl ?_
              refine j_imul hX dX6_reaches_52 ?_
              refine j_bipush hX dX6_reaches_53 (by decide) ?_
              refine j_isub hX dX6_reaches_55 ?_
              refine j_iload hX dX6_reaches_56 rfl ?_
              refine j_iadd hX dX6_reaches_58 ?_
              refine j_ialdN hX (10 * t - 10 + j) (by omega) dX6_reaches_59 h_a9 (by omega) (by decide) ?_
              refine j_iload_n hX dX6_reaches_60 rfl ?_
              refine j_icmp_ne hX 68 dX6_reaches_61 (by decide) (by omega) (by omega) (fun c61 => ?_) (fun c61 => ?_)
              · refine j_iconst hX dX6_reaches_68 ?_
                refine j_istore_n hX dX6_reaches_69 (by decide) ?_
                refine j_iinc hX dX6_reaches_70 rfl (by decide) ?_
                refine j_goto hX 17 dX6_reaches_73 (by decide) ?_
                exact j_at (L' := [(0, .ref b), (1, .int (iZ r)), (2, .int (iZ k)), (3, .int (iZ _)), (4, .int (iZ ((t : Nat) : Int))), (5, .int (iZ (((j + 1) : Nat) : Int)))]) (hjo (ih2 (j + 1) _ (by omega) (by first | exact (Or.inl ⟨rfl, (rchU_step (by omega) (by omega)).mpr (Or.inl (by rcases hx with ⟨_, z⟩ | ⟨z, _⟩; exact z; exact absurd z c30))⟩) | exact (Or.inl ⟨rfl, (rchU_step (by omega) (by omega)).mpr (Or.inr ⟨by omega, by omega⟩)⟩) | exact Or.inr ⟨rfl, fun z => by rcases (rchU_step (by omega) (by omega)).mp z with z | ⟨z1, z2⟩; (rcases hx with ⟨z9, _⟩ | ⟨_, z9⟩; omega; exact z9 z); omega⟩))) ⟨rfl, rfl, rfl, rfl, rfl, rfl, trivial⟩
              · refine j_iconst hX dX6_reaches_64 ?_
                refine j_goto hX 69 dX6_reaches_65 (by decide) ?_
                refine j_istore_n hX dX6_reaches_69 (by decide) ?_
                refine j_iinc hX dX6_reaches_70 rfl (by decide) ?_
                refine j_goto hX 17 dX6_reaches_73 (by decide) ?_
                exact j_at (L' := [(0, .ref b), (1, .int (iZ r)), (2, .int (iZ k)), (3, .int (iZ _)), (4, .int (iZ ((t : Nat) : Int))), (5, .int (iZ (((j + 1) : Nat) : Int)))]) (hjo (ih2 (j + 1) _ (by omega) (by first | exact (Or.inl ⟨rfl, (rchU_step (by omega) (by omega)).mpr (Or.inl (by rcases hx with ⟨_, z⟩ | ⟨z, _⟩; exact z; exact absurd z c30))⟩) | exact (Or.inl ⟨rfl, (rchU_step (by omega) (by omega)).mpr (Or.inr ⟨by omega, by omega⟩)⟩) | exact Or.inr ⟨rfl, fun z => by rcases (rchU_step (by omega) (by omega)).mp z with z | ⟨z1, z2⟩; (rcases hx with ⟨z9, _⟩ | ⟨_, z9⟩; omega; exact z9 z); omega⟩))) ⟨rfl, rfl, rfl, rfl, rfl, rfl, trivial⟩
      refine hji ?_
      refine j_iload hX dX6_reaches_5 rfl ?_
      refine j_aload_n hX dX6_reaches_7 rfl ?_
      refine j_get hX fl_X6_67_8 dX6_reaches_8 h_M (by rfl) ?_
      refine j_icmp_gt hX 82 dX6_reaches_11 (by decide) (by omega) (by omega) (fun c11 => absurd c11 (by omega)) (fun c11 => ?_)
      refine j_iconst hX dX6_reaches_14 ?_
      refine j_istore hX dX6_reaches_15 (by decide) ?_
      exact j_at (L' := [(0, .ref b), (1, .int (iZ r)), (2, .int (iZ k)), (3, .int (iZ x)), (4, .int (iZ ((t : Nat) : Int))), (5, .int (iZ ((0 : Nat) : Int)))]) (hjo (lq (σ 8 t).toNat 0 x (by omega) hx)) ⟨rfl, rfl, rfl, rfl, rfl, rfl, trivial⟩
  refine hji ?_
  refine j_iconst hX dX6_reaches_0 ?_
  refine j_istore_n hX dX6_reaches_1 (by decide) ?_
  refine j_iconst hX dX6_reaches_2 ?_
  refine j_istore hX dX6_reaches_3 (by decide) ?_
  exact j_at (L' := [(0, .ref b), (1, .int (iZ r)), (2, .int (iZ k)), (3, .int (iZ 0)), (4, .int (iZ ((1 : Nat) : Int)))]) (hjo (lp n 1 0 (by omega) (by omega) (Or.inr ⟨rfl, rchU_zero⟩))) ⟨rfl, rfl, rfl, rfl, rfl, trivial⟩
def blkU (σ : St) (n t : Nat) (o0 j0 : Nat) (y : Int) : Prop := ∃ o j : Nat, 1 ≤ o ∧ o ≤ n ∧ (o < o0 ∨ (o = o0 ∧ j < j0)) ∧ (j : Int) < σ 8 o ∧ σ 2 o < σ 2 t ∧ reach σ n (σ 9 (10 * o - 10 + j)) (σ 2 t) ∧ y = σ 10 (10 * o - 10 + j)
theorem blkU_step {σ : St} {n t o0 j0 : Nat} {y : Int} (h : blkU σ n t o0 (j0 + 1) y) : blkU σ n t o0 j0 y ∨ (σ 2 o0 < σ 2 t ∧ reach σ n (σ 9 (10 * o0 - 10 + j0)) (σ 2 t) ∧ y = σ 10 (10 * o0 - 10 + j0)) := by
  obtain ⟨o, j, h1, h2, h3, h4, h5, h6, h7⟩ := h
  by_cases e : o = o0 ∧ j = j0
  · obtain ⟨rfl, rfl⟩ := e
    exact Or.inr ⟨h5, h6, h7⟩
  · exact Or.inl ⟨o, j, h1, h2, by omega, h4, h5, h6, h7⟩
theorem blkU_up {σ : St} {n t o0 j0 : Nat} {y : Int} (h : blkU σ n t o0 j0 y) : blkU σ n t o0 (j0 + 1) y := by
  obtain ⟨o, j, h1, h2, h3, h4, h5, h6, h7⟩ := h
  exact ⟨o, j, h1, h2, by omega, h4, h5, h6, h7⟩
theorem blkU_next {σ : St} {n t o0 j0 : Nat} {y : Int} (hj : (j0 : Int) = σ 8 o0) : blkU σ n t o0 j0 y ↔ blkU σ n t (o0 + 1) 0 y := by
  constructor
  · rintro ⟨o, i, h1, h2, h3, h4, h5⟩
    exact ⟨o, i, h1, h2, by omega, h4, h5⟩
  · rintro ⟨o, i, h1, h2, h3, h4, h5⟩
    refine ⟨o, i, h1, h2, ?_, h4, h5⟩
    rcases h3 with h3 | h3
    · by_cases e : o = o0
      · subst e; exact Or.inr ⟨rfl, by omega⟩
      · exact Or.inl (by omega)
    · omega
theorem blkU_all {σ : St} {n t : Nat} {y : Int} : blkU σ n t (n + 1) 0 y ↔ blkS σ n t y := by
  constructor
  · rintro ⟨o, i, h1, h2, h3, h4⟩; exact ⟨o, i, h1, h2, h4⟩
  · rintro ⟨o, i, h1, h2, h4⟩; exact ⟨o, i, h1, h2, Or.inl (by omega), h4⟩
theorem blkS_b {σ : St} {n m t : Nat} (hO : OK n m σ) {x : Int} (h : isMax (blkS σ n t) x) : 0 ≤ x ∧ x ≤ 1000 := by
  refine ⟨h.2.1, ?_⟩
  rcases h.1 with h | ⟨o, j, h1, h2, h3, h4, h5, h6⟩
  · omega
  · have := ((hO.2.2.1 o h1 h2).2.2.2.2.2.2.2.2.2 j h3).2
    omega
set_option maxRecDepth 100000 in
set_option maxHeartbeats 4000000 in
theorem c6_blocking {l : Launch} {G : Gt} {B : Nat} {h : hF} {b : Nat} {A9 : Nat → Nat} {σ : St} {n m : Nat} {sp tu th : Int} (hM : Mo G h b A9 σ n m sp tu th) {t : Nat} (ht : 1 ≤ t ∧ t ≤ n) (hO : OK n m σ) : Ct l G B yX6_blocking cX6_blocking 7 (some .long) 1 0 0 [.ref b, .int (iZ (t : Int))] h (fun v h' => v = .long (lZ (blk σ n t)) ∧ h = h') := by
  refine Ct.of (by decide) (Nat.le_of_ble_eq_true rfl) ?_
  intro p e s m9 below meth c A hX hR hin
  have h_M := hM.1
  have h_a2 := hM.a2
  have h_a8 := hM.a8
  have h_a9 := hM.a9
  have h_a10 := hM.a10
  have hn16 := hO.1
  have hm8 := hO.2.1
  obtain ⟨-, -, r0, -⟩ := hO.2.2.1 t ht.1 ht.2
  refine J_abs (J0 := J p l e _ s m9 _ below meth c _ _ G A) ?_
  intro JX hji hjo
  have lp : ∀ (d o : Nat) (x : Int), d + o = n + 1 → 1 ≤ o → isMax (blkU σ n t o 0) x → x ≤ 1000 → JX 0 0 5 [(0, .ref b), (1, .int (iZ (t : Int))), (2, .long (lZ x)), (4, .int (iZ ((o : Nat) : Int)))] [] h := by
    intro d
    induction d with
    | zero =>
      intro o x hd ho hx hx9
      refine hji ?_
      refine j_iload hX dX6_blocking_5 rfl ?_
      refine j_aload_n hX dX6_blocking_7 rfl ?_
      refine j_get hX fl_X6_67_8 dX6_blocking_8 h_M (by rfl) ?_
      refine j_icmp_gt hX 110 dX6_blocking_11 (by decide) (by omega) (by omega) (fun c11 => ?_) (fun c11 => absurd c11 (by omega))
      refine j_lload_n hX dX6_blocking_110 rfl ?_
      exact j_lret hX hR dX6_blocking_111 ⟨by rw [blk_eq (hx.congr (fun y => by rw [show o = n + 1 by omega]; exact blkU_all))], rfl⟩
    | succ d ih =>
      intro o x hd ho hx hx9
      obtain ⟨o0, o1, o2, o3, o4, o5, o6, o7, o8, o9⟩ := hO.2.2.1 o (by omega) (by omega)
      have lq : ∀ (f j : Nat) (x : Int), (f : Int) + (j : Int) = σ 8 o → isMax (blkU σ n t o j) x → x ≤ 1000 → JX 0 0 17 [(0, .ref b), (1, .int (iZ (t : Int))), (2, .long (lZ x)), (4, .int (iZ ((o : Nat) : Int))), (5, .int (iZ ((j : Nat) : Int)))] [] h := by
        intro f
        induction f with
        | zero =>
          intro j x hf hx hx9
          refine hji ?_
          refine j_iload hX dX6_blocking_17 rfl ?_
          refine j_aload_n hX dX6_blocking_19 rfl ?_
          refine j_get hX fl_X6_35_8 dX6_blocking_20 h_M (by rfl) ?_
          refine j_iload hX dX6_blocking_23 rfl ?_
          refine j_ialdN hX _ rfl dX6_blocking_25 h_a8 (by omega) (by decide) ?_
          refine j_icmp_ge hX 104 dX6_blocking_26 (by decide) (by omega) (by omega) (fun c26 => ?_) (fun c26 => absurd c26 (by omega))
          refine j_iinc hX dX6_blocking_104 rfl (by decide) ?_
          refine j_goto hX 5 dX6_blocking_107 (by decide) ?_
          exact j_at (L' := [(0, .ref b), (1, .int (iZ (t : Int))), (2, .long (lZ x)), (4, .int (iZ (((o + 1) : Nat) : Int)))]) (hjo (ih (o + 1) x (by omega) (by omega) (hx.congr (fun y => blkU_next (by omega))) hx9)) ⟨rfl, rfl, rfl, rfl, trivial⟩
        | succ f ih2 =>
          intro j x hf hx hx9
          have hjl : (j : Int) < σ 8 o := by omega
          have o9 := o9 j hjl
          have hx0 := hx.2.1
          refine hji ?_
          refine j_iload hX dX6_blocking_17 rfl ?_
          refine j_aload_n hX dX6_blocking_19 rfl ?_
          refine j_get hX fl_X6_35_8 dX6_blocking_20 h_M (by rfl) ?_
          refine j_iload hX dX6_blocking_23 rfl ?_
          refine j_ialdN hX _ rfl dX6_blocking_25 h_a8 (by omega) (by decide) ?_
          refine j_icmp_ge hX 104 dX6_blocking_26 (by decide) (by omega) (by omega) (fun c26 => absurd c26 (by omega)) (fun c26 => ?_)
          refine j_bipush hX dX6_blocking_29 (by decide) ?_
          refine j_iload hX dX6_blocking_31 rfl ?_
          refine j_imul hX dX6_blocking_33 ?_
          refine j_bipush hX dX6_blocking_34 (by decide) ?_
          refine j_isub hX dX6_blocking_36 ?_
          refine j_iload hX dX6_blocking_37 rfl ?_
          refine j_iadd hX dX6_blocking_39 ?_
          refine j_istore hX dX6_blocking_40 (by decide) ?_
          refine j_aload_n hX dX6_blocking_42 rfl ?_
          refine j_get hX fl_X6_16_8 dX6_blocking_43 h_M (by rfl) ?_
          refine j_iload hX dX6_blocking_46 rfl ?_
          refine j_ialdN hX _ rfl dX6_blocking_48 h_a2 (by omega) (by decide) ?_
          refine j_aload_n hX dX6_blocking_49 rfl ?_
          refine j_get hX fl_X6_16_8 dX6_blocking_50 h_M (by rfl) ?_
          refine j_iload_n hX dX6_blocking_53 rfl ?_
          refine j_ialdN hX _ rfl dX6_blocking_54 h_a2 (by omega) (by decide) ?_
          refine j_icmp_ge hX 98 dX6_blocking_55 (by decide) (by omega) (by omega) (fun c55 => ?_) (fun c55 => ?_)
          · refine j_iinc hX dX6_blocking_98 rfl (by decide) ?_
            refine j_goto hX 17 dX6_blocking_101 (by decide) ?_
            exact j_at (L' := [(0, .ref b), (1, .int (iZ (t : Int))), (2, .long (lZ x)), (4, .int (iZ ((o : Nat) : Int))), (5, .int (iZ (((j + 1) : Nat) : Int)))]) (hjo (ih2 (j + 1) x (by omega) (hx.keep (fun y hy => blkU_up hy) (fun y hy => by rcases blkU_step hy with z | ⟨z1, z2, z3⟩; exact Or.inl z; exfalso; omega)) hx9)) ⟨rfl, rfl, rfl, rfl, rfl, trivial⟩
          · refine j_aload_n hX dX6_blocking_58 rfl ?_
            refine j_get hX fl_X6_41_8 dX6_blocking_59 h_M (by rfl) ?_
            refine j_iload hX dX6_blocking_62 rfl ?_
            refine j_laldN hX (10 * o - 10 + j) (by omega) dX6_blocking_64 h_a10 (by omega) (by decide) ?_
            refine j_lload_n hX dX6_blocking_65 rfl ?_
            refine j_lcmp_le hX 98 dX6_blocking_66 dX6_blocking_67 (by decide) (by omega) (by omega) (fun c66 => ?_) (fun c66 => ?_)
            · refine j_iinc hX dX6_blocking_98 rfl (by decide) ?_
              refine j_goto hX 17 dX6_blocking_101 (by decide) ?_
              exact j_at (L' := [(0, .ref b), (1, .int (iZ (t : Int))), (2, .long (lZ x)), (4, .int (iZ ((o : Nat) : Int))), (5, .int (iZ (((j + 1) : Nat) : Int)))]) (hjo (ih2 (j + 1) x (by omega) (hx.keep (fun y hy => blkU_up hy) (fun y hy => by rcases blkU_step hy with z | ⟨z1, z2, z3⟩; exact Or.inl z; exact Or.inr (by omega))) hx9)) ⟨rfl, rfl, rfl, rfl, rfl, trivial⟩
            · refine j_aload_n hX dX6_blocking_70 rfl ?_
              refine j_aload_n hX dX6_blocking_71 rfl ?_
              refine j_get hX fl_X6_38_8 dX6_blocking_72 h_M (by rfl) ?_
              refine j_iload hX dX6_blocking_75 rfl ?_
              refine j_ialdN hX (10 * o - 10 + j) (by omega) dX6_blocking_77 h_a9 (by omega) (by decide) ?_
              refine j_aload_n hX dX6_blocking_78 rfl ?_
              refine j_get hX fl_X6_16_8 dX6_blocking_79 h_M (by rfl) ?_
              refine j_iload_n hX dX6_blocking_82 rfl ?_
              refine j_ialdN hX _ rfl dX6_blocking_83 h_a2 (by omega) (by decide) ?_
              refine j_callV hX cv_X6_97 (c6_reaches hM hO (by omega) (by omega)) dX6_blocking_84 h_M rfl rfl (by exact ⟨Nat.le_of_ble_eq_true rfl, Nat.le_of_ble_eq_true rfl⟩) (by exact ⟨Nat.le_of_ble_eq_true rfl, Nat.le_of_ble_eq_true rfl⟩) (by exact Nat.le_of_ble_eq_true rfl) (fun v84 h84 hp84 => ?_) rfl
              obtain ⟨⟨y84, rfl, hf84⟩, rfl⟩ := hp84
              have hy84 : y84 = 0 ∨ y84 = 1 := by rcases hf84 with ⟨z, _⟩ | ⟨z, _⟩ <;> omega
              refine j_if_eq hX 98 dX6_blocking_87 (by decide) (by omega) (fun c87 => ?_) (fun c87 => ?_)
              · refine j_iinc hX dX6_blocking_98 rfl (by decide) ?_
                refine j_goto hX 17 dX6_blocking_101 (by decide) ?_
                exact j_at (L' := [(0, .ref b), (1, .int (iZ (t : Int))), (2, .long (lZ x)), (4, .int (iZ ((o : Nat) : Int))), (5, .int (iZ (((j + 1) : Nat) : Int)))]) (hjo (ih2 (j + 1) x (by omega) (hx.keep (fun y hy => blkU_up hy) (fun y hy => by rcases blkU_step hy with z | ⟨z1, z2, z3⟩; exact Or.inl z; rcases hf84 with ⟨z9, _⟩ | ⟨_, z9⟩; omega; exact absurd z2 z9)) hx9)) ⟨rfl, rfl, rfl, rfl, rfl, trivial⟩
              · have hf84 : reach σ n (σ 9 (10 * o - 10 + j)) (σ 2 t) := by rcases hf84 with ⟨_, z⟩ | ⟨z, _⟩; exact z; omega
                refine j_aload_n hX dX6_blocking_90 rfl ?_
                refine j_get hX fl_X6_41_8 dX6_blocking_91 h_M (by rfl) ?_
                refine j_iload hX dX6_blocking_94 rfl ?_
                refine j_laldN hX (10 * o - 10 + j) (by omega) dX6_blocking_96 h_a10 (by omega) (by decide) ?_
                refine j_lstore_n hX dX6_blocking_97 (by decide) ?_
                refine j_iinc hX dX6_blocking_98 rfl (by decide) ?_
                refine j_goto hX 17 dX6_blocking_101 (by decide) ?_
                exact j_at (L' := [(0, .ref b), (1, .int (iZ (t : Int))), (2, .long (lZ _)), (4, .int (iZ ((o : Nat) : Int))), (5, .int (iZ (((j + 1) : Nat) : Int)))]) (hjo (ih2 (j + 1) _ (by omega) (hx.more (by omega) ⟨o, j, by omega, by omega, by omega, hjl, by omega, hf84, rfl⟩ (fun y hy => by rcases blkU_step hy with z | ⟨z1, z2, z3⟩; exact Or.inl z; exact Or.inr (by omega))) (by omega))) ⟨rfl, rfl, rfl, rfl, rfl, trivial⟩
      refine hji ?_
      refine j_iload hX dX6_blocking_5 rfl ?_
      refine j_aload_n hX dX6_blocking_7 rfl ?_
      refine j_get hX fl_X6_67_8 dX6_blocking_8 h_M (by rfl) ?_
      refine j_icmp_gt hX 110 dX6_blocking_11 (by decide) (by omega) (by omega) (fun c11 => absurd c11 (by omega)) (fun c11 => ?_)
      refine j_iconst hX dX6_blocking_14 ?_
      refine j_istore hX dX6_blocking_15 (by decide) ?_
      exact j_at (L' := [(0, .ref b), (1, .int (iZ (t : Int))), (2, .long (lZ x)), (4, .int (iZ ((o : Nat) : Int))), (5, .int (iZ ((0 : Nat) : Int)))]) (hjo (lq (σ 8 o).toNat 0 x (by omega) hx hx9)) ⟨rfl, rfl, rfl, rfl, rfl, trivial⟩
  refine hji ?_
  refine j_lconst0 hX dX6_blocking_0 ?_
  refine j_lstore_n hX dX6_blocking_1 (by decide) ?_
  refine j_iconst hX dX6_blocking_2 ?_
  refine j_istore hX dX6_blocking_3 (by decide) ?_
  exact j_at (L' := [(0, .ref b), (1, .int (iZ (t : Int))), (2, .long (lZ 0)), (4, .int (iZ ((1 : Nat) : Int)))]) (hjo (lp n 1 0 (by omega) (by omega) (isMax.zero (fun y => by rintro ⟨o, i, h1, h2, h3, h4⟩; omega)) (by omega))) ⟨rfl, rfl, rfl, rfl, trivial⟩
theorem blk_is {σ : St} {n m t : Nat} (hO : OK n m σ) : isMax (blkS σ n t) (blk σ n t) := by
  have hex : ∃ x, isMax (blkS σ n t) x := by
    have h : ∀ k : Nat, (∀ y, blkS σ n t y → y ≤ (k : Int)) → ∃ x, isMax (blkS σ n t) x := by
      intro k
      induction k with
      | zero => intro hk; exact ⟨0, Or.inl rfl, Int.le_refl 0, fun y hy => by have := hk y hy; omega⟩
      | succ k ih =>
        intro hk
        by_cases e : blkS σ n t ((k + 1 : Nat) : Int)
        · exact ⟨_, Or.inr e, by omega, hk⟩
        · refine ih (fun y hy => ?_)
          have := hk y hy
          by_cases e2 : y = ((k + 1 : Nat) : Int)
          · subst e2; exact absurd hy e
          · omega
    refine h 1000 (fun y hy => ?_)
    obtain ⟨o, j, h1, h2, h3, h4, h5, h6⟩ := hy
    have := ((hO.2.2.1 o h1 h2).2.2.2.2.2.2.2.2.2 j h3).2
    omega
  exact Classical.epsilon_spec hex
theorem blk_b {σ : St} {n m t : Nat} (hO : OK n m σ) : 0 ≤ blk σ n t ∧ blk σ n t ≤ 1000 := blkS_b hO (blk_is hO)
set_option maxRecDepth 100000 in
set_option maxHeartbeats 4000000 in
theorem c6_need {l : Launch} {G : Gt} {B : Nat} {h : hF} {b : Nat} {A9 : Nat → Nat} {σ : St} {n m : Nat} {sp tu th : Int} (hM : Mo G h b A9 σ n m sp tu th) {t : Nat} (ht : 1 ≤ t ∧ t ≤ n) (hO : OK n m σ) {q w Bq : Int} (hq : 0 ≤ q ∧ q ≤ 500) (hw : 0 ≤ w ∧ w ≤ 40000) (hB : 0 ≤ Bq ∧ Bq ≤ 1000) : Ct l G B yX6_need cX6_need 10 (some .long) 2 0 0 [.ref b, .int (iZ (t : Int)), .int (iZ q), .long (lZ Bq), .long (lZ w)] h (fun v h' => v = .long (lZ (nee σ n m t Bq q w)) ∧ h = h') := by
  refine Ct.of (by decide) (Nat.le_of_ble_eq_true rfl) ?_
  intro p e s m9 below meth c A hX hR hin
  have h_M := hM.1
  have h_a2 := hM.a2
  have h_a12 := hM.a12
  have h_a13 := hM.a13
  have hn16 := hO.1
  have hm8 := hO.2.1
  obtain ⟨o0, o1, o2, o3, o4, o5, o6, o7, o8, o9⟩ := hO.2.2.1 t ht.1 ht.2
  have hc : 1 ≤ cosT σ t ∧ cosT σ t ≤ 2000 := by unfold cosT; omega
  have hq9 := mulb (a := q + 1) (A := 501) (b := cosT σ t) (B := 2000) (by omega) (by omega)
  have hw9 : 0 ≤ w ∧ w ≤ 1000000 := by omega
  refine J_abs (J0 := J p l e _ s m9 _ below meth c _ _ G A) ?_
  intro JX hji hjo
  have li : ∀ (d o : Nat) (x : Int), d + o = m + 1 → 1 ≤ o → x = (q + 1) * cosT σ t + Bq + takT σ t n w + takI σ (o - 1) w → JX 0 0 77 [(0, .ref b), (1, .int (iZ (t : Int))), (2, .int (iZ q)), (3, .long (lZ Bq)), (5, .long (lZ w)), (7, .long (lZ x)), (9, .int (iZ ((o : Nat) : Int)))] [] h := by
    intro d
    induction d with
    | zero =>
      intro o x hd ho hx
      refine hji ?_
      refine j_iload hX dX6_need_77 rfl ?_
      refine j_aload_n hX dX6_need_79 rfl ?_
      refine j_get hX fl_X6_90_8 dX6_need_80 h_M (by rfl) ?_
      refine j_icmp_gt hX 117 dX6_need_83 (by decide) (by omega) (by omega) (fun c83 => ?_) (fun c83 => absurd c83 (by omega))
      refine j_lload hX dX6_need_117 rfl ?_
      exact j_lret hX hR dX6_need_119 ⟨by rw [hx, show o - 1 = m by omega]; rfl, rfl⟩
    | succ d ih =>
      intro o x hd ho hx
      obtain ⟨i0, i1⟩ := hO.2.2.2 o (by omega) (by omega)
      have hu := upw_b (b := σ 13 o) hw9 i1.1
      have hmu := mulb hu (show 0 ≤ σ 12 o ∧ σ 12 o ≤ 1000 by omega)
      obtain ⟨o1, rfl⟩ : ∃ o1, o = o1 + 1 := ⟨o - 1, by omega⟩
      refine hji ?_
      refine j_iload hX dX6_need_77 rfl ?_
      refine j_aload_n hX dX6_need_79 rfl ?_
      refine j_get hX fl_X6_90_8 dX6_need_80 h_M (by rfl) ?_
      refine j_icmp_gt hX 117 dX6_need_83 (by decide) (by omega) (by omega) (fun c83 => absurd c83 (by omega)) (fun c83 => ?_)
      refine j_lload hX dX6_need_86 rfl ?_
      refine j_lload hX dX6_need_88 rfl ?_
      refine j_aload_n hX dX6_need_90 rfl ?_
      refine j_get hX fl_X6_47_8 dX6_need_91 h_M (by rfl) ?_
      refine j_iload hX dX6_need_94 rfl ?_
      refine j_laldN hX _ rfl dX6_need_96 h_a13 (by omega) (by decide) ?_
      refine j_callS hX cs_X6_93 (c6_upwards (by omega) (by omega)) dX6_need_97 rfl (by exact ⟨Nat.le_of_ble_eq_true rfl, Nat.le_of_ble_eq_true rfl⟩) (by exact ⟨Nat.le_of_ble_eq_true rfl, Nat.le_of_ble_eq_true rfl⟩) (by exact Nat.le_of_ble_eq_true rfl) (fun v97 h97 hp97 => ?_) rfl
      obtain ⟨rfl, rfl⟩ := hp97
      refine j_aload_n hX dX6_need_100 rfl ?_
      refine j_get hX fl_X6_44_8 dX6_need_101 h_M (by rfl) ?_
      refine j_iload hX dX6_need_104 rfl ?_
      refine j_laldN hX _ rfl dX6_need_106 h_a12 (by omega) (by decide) ?_
      refine j_lmul hX dX6_need_107 ?_
      refine j_ladd hX dX6_need_108 ?_
      refine j_lstore hX dX6_need_109 (by decide) ?_
      refine j_iinc hX dX6_need_111 rfl (by decide) ?_
      refine j_goto hX 77 dX6_need_114 (by decide) ?_
      exact j_at (L' := [(0, .ref b), (1, .int (iZ (t : Int))), (2, .int (iZ q)), (3, .long (lZ Bq)), (5, .long (lZ w)), (7, .long (lZ _)), (9, .int (iZ (((o1 + 1 + 1) : Nat) : Int)))]) (hjo (ih (o1 + 1 + 1) _ (by omega) (by omega) (by rw [hx]; show _ = _ + (takI σ o1 w + _); rw [show o1 + 1 - 1 = o1 by omega]; omega))) ⟨rfl, rfl, rfl, rfl, rfl, rfl, rfl, trivial⟩
  have lp : ∀ (d o : Nat) (x : Int), d + o = n + 1 → 1 ≤ o → x = (q + 1) * cosT σ t + Bq + takT σ t (o - 1) w → JX 0 0 17 [(0, .ref b), (1, .int (iZ (t : Int))), (2, .int (iZ q)), (3, .long (lZ Bq)), (5, .long (lZ w)), (7, .long (lZ x)), (9, .int (iZ ((o : Nat) : Int)))] [] h := by
    intro d
    induction d with
    | zero =>
      intro o x hd ho hx
      refine hji ?_
      refine j_iload hX dX6_need_17 rfl ?_
      refine j_aload_n hX dX6_need_19 rfl ?_
      refine j_get hX fl_X6_67_8 dX6_need_20 h_M (by rfl) ?_
      refine j_icmp_gt hX 74 dX6_need_23 (by decide) (by omega) (by omega) (fun c23 => ?_) (fun c23 => absurd c23 (by omega))
      refine j_iconst hX dX6_need_74 ?_
      refine j_istore hX dX6_need_75 (by decide) ?_
      exact j_at (L' := [(0, .ref b), (1, .int (iZ (t : Int))), (2, .int (iZ q)), (3, .long (lZ Bq)), (5, .long (lZ w)), (7, .long (lZ x)), (9, .int (iZ ((1 : Nat) : Int)))]) (hjo (li m 1 x (by omega) (by omega) (by rw [hx, show o - 1 = n by omega]; show _ = _ + 0; omega))) ⟨rfl, rfl, rfl, rfl, rfl, rfl, rfl, trivial⟩
    | succ d ih =>
      intro o x hd ho hx
      obtain ⟨a0, a1, a2, a3, a4, a5, a6, a7, a8, a9⟩ := hO.2.2.1 o (by omega) (by omega)
      have hu : 0 ≤ actT σ o w ∧ actT σ o w ≤ 1000000 := acts_b a5.1 a4 a3 a1.1 hw9
      have hmu := mulb hu (show 0 ≤ cosT σ o ∧ cosT σ o ≤ 2000 by unfold cosT; omega)
      obtain ⟨o1, rfl⟩ : ∃ o1, o = o1 + 1 := ⟨o - 1, by omega⟩
      refine hji ?_
      refine j_iload hX dX6_need_17 rfl ?_
      refine j_aload_n hX dX6_need_19 rfl ?_
      refine j_get hX fl_X6_67_8 dX6_need_20 h_M (by rfl) ?_
      refine j_icmp_gt hX 74 dX6_need_23 (by decide) (by omega) (by omega) (fun c23 => absurd c23 (by omega)) (fun c23 => ?_)
      refine j_iload hX dX6_need_26 rfl ?_
      refine j_iload_n hX dX6_need_28 rfl ?_
      refine j_icmp_eq hX 68 dX6_need_29 (by decide) (by omega) (by omega) (fun c29 => ?_) (fun c29 => ?_)
      · refine j_iinc hX dX6_need_68 rfl (by decide) ?_
        refine j_goto hX 17 dX6_need_71 (by decide) ?_
        exact j_at (L' := [(0, .ref b), (1, .int (iZ (t : Int))), (2, .int (iZ q)), (3, .long (lZ Bq)), (5, .long (lZ w)), (7, .long (lZ _)), (9, .int (iZ (((o1 + 1 + 1) : Nat) : Int)))]) (hjo (ih (o1 + 1 + 1) _ (by omega) (by omega) (by rw [hx]; show _ = _ + (takT σ t o1 w + _); rw [show o1 + 1 - 1 = o1 by omega, if_neg (fun z => z.1 (by omega))]; omega))) ⟨rfl, rfl, rfl, rfl, rfl, rfl, rfl, trivial⟩
      · refine j_aload_n hX dX6_need_32 rfl ?_
        refine j_get hX fl_X6_16_8 dX6_need_33 h_M (by rfl) ?_
        refine j_iload hX dX6_need_36 rfl ?_
        refine j_ialdN hX _ rfl dX6_need_38 h_a2 (by omega) (by decide) ?_
        refine j_aload_n hX dX6_need_39 rfl ?_
        refine j_get hX fl_X6_16_8 dX6_need_40 h_M (by rfl) ?_
        refine j_iload_n hX dX6_need_43 rfl ?_
        refine j_ialdN hX _ rfl dX6_need_44 h_a2 (by omega) (by decide) ?_
        refine j_icmp_lt hX 68 dX6_need_45 (by decide) (by omega) (by omega) (fun c45 => ?_) (fun c45 => ?_)
        · refine j_iinc hX dX6_need_68 rfl (by decide) ?_
          refine j_goto hX 17 dX6_need_71 (by decide) ?_
          exact j_at (L' := [(0, .ref b), (1, .int (iZ (t : Int))), (2, .int (iZ q)), (3, .long (lZ Bq)), (5, .long (lZ w)), (7, .long (lZ _)), (9, .int (iZ (((o1 + 1 + 1) : Nat) : Int)))]) (hjo (ih (o1 + 1 + 1) _ (by omega) (by omega) (by rw [hx]; show _ = _ + (takT σ t o1 w + _); rw [show o1 + 1 - 1 = o1 by omega, if_neg (fun z => by omega)]; omega))) ⟨rfl, rfl, rfl, rfl, rfl, rfl, rfl, trivial⟩
        · refine j_lload hX dX6_need_48 rfl ?_
          refine j_aload_n hX dX6_need_50 rfl ?_
          refine j_iload hX dX6_need_51 rfl ?_
          refine j_lload hX dX6_need_53 rfl ?_
          refine j_callV hX cv_X6_105 (c6_comes hM (by omega) hO hw9) dX6_need_55 h_M rfl rfl (by exact ⟨Nat.le_of_ble_eq_true rfl, Nat.le_of_ble_eq_true rfl⟩) (by exact ⟨Nat.le_of_ble_eq_true rfl, Nat.le_of_ble_eq_true rfl⟩) (by exact Nat.le_of_ble_eq_true rfl) (fun v55 h55 hp55 => ?_) rfl
          obtain ⟨rfl, rfl⟩ := hp55
          refine j_aload_n hX dX6_need_58 rfl ?_
          refine j_iload hX dX6_need_59 rfl ?_
          refine j_callV hX cv_X6_101 (c6_cost hM (by omega) hO) dX6_need_61 h_M rfl rfl (by exact ⟨Nat.le_of_ble_eq_true rfl, Nat.le_of_ble_eq_true rfl⟩) (by exact ⟨Nat.le_of_ble_eq_true rfl, Nat.le_of_ble_eq_true rfl⟩) (by exact Nat.le_of_ble_eq_true rfl) (fun v61 h61 hp61 => ?_) rfl
          obtain ⟨rfl, rfl⟩ := hp61
          refine j_lmul hX dX6_need_64 ?_
          refine j_ladd hX dX6_need_65 ?_
          refine j_lstore hX dX6_need_66 (by decide) ?_
          refine j_iinc hX dX6_need_68 rfl (by decide) ?_
          refine j_goto hX 17 dX6_need_71 (by decide) ?_
          exact j_at (L' := [(0, .ref b), (1, .int (iZ (t : Int))), (2, .int (iZ q)), (3, .long (lZ Bq)), (5, .long (lZ w)), (7, .long (lZ _)), (9, .int (iZ (((o1 + 1 + 1) : Nat) : Int)))]) (hjo (ih (o1 + 1 + 1) _ (by omega) (by omega) (by rw [hx]; show _ = _ + (takT σ t o1 w + _); rw [show o1 + 1 - 1 = o1 by omega, if_pos ⟨by omega, by omega⟩]; omega))) ⟨rfl, rfl, rfl, rfl, rfl, rfl, rfl, trivial⟩
  refine hji ?_
  refine j_iload_n hX dX6_need_0 rfl ?_
  refine j_iconst hX dX6_need_1 ?_
  refine j_iadd hX dX6_need_2 ?_
  refine j_i2l hX dX6_need_3 (by omega) ?_
  refine j_aload_n hX dX6_need_4 rfl ?_
  refine j_iload_n hX dX6_need_5 rfl ?_
  refine j_callV hX cv_X6_101 (c6_cost hM ht hO) dX6_need_6 h_M rfl rfl (by exact ⟨Nat.le_of_ble_eq_true rfl, Nat.le_of_ble_eq_true rfl⟩) (by exact ⟨Nat.le_of_ble_eq_true rfl, Nat.le_of_ble_eq_true rfl⟩) (by exact Nat.le_of_ble_eq_true rfl) (fun v6 h6 hp6 => ?_) rfl
  obtain ⟨rfl, rfl⟩ := hp6
  refine j_lmul hX dX6_need_9 ?_
  refine j_lload_n hX dX6_need_10 rfl ?_
  refine j_ladd hX dX6_need_11 ?_
  refine j_lstore hX dX6_need_12 (by decide) ?_
  refine j_iconst hX dX6_need_14 ?_
  refine j_istore hX dX6_need_15 (by decide) ?_
  exact j_at (L' := [(0, .ref b), (1, .int (iZ (t : Int))), (2, .int (iZ q)), (3, .long (lZ Bq)), (5, .long (lZ w)), (7, .long (lZ _)), (9, .int (iZ ((1 : Nat) : Int)))]) (hjo (lp n 1 _ (by omega) (by omega) (by show _ = _ + 0; omega))) ⟨rfl, rfl, rfl, rfl, rfl, rfl, rfl, trivial⟩
end
section
/-! THE REFERENCE: search, answer, allAnswer, load, busy, longer -/
section JE
variable {p : Program} {l : Launch} {e : Env} {R : Room} {s : State} {m : MethodId} {args : Array Value} {below : List Frame} {meth : Method} {c : Code} {Q : State → Prop} {nL : Nat} {G : Gt} {A : Nat → Prop} {cells slots pc : Nat} {L : List (Nat × Value)} {st : List Value} {h : hF} {cc : ByteArray} {own : String} {B : Nat}
theorem j_putE (hX : CX p s m args c cc nL own G B A) {i ci k a : Nat} {ty : FieldType} (hF : FP own i ci k ty) (hdg : decode cc pc = .ok (.putfield i, 3)) {fs fs2 : List Value} {v : Value} (ha : h a = some (.inr (ci, fs))) (hn : narrow ty v = v) (hfit : fits ty v = true) (hk : k < fs.length) (he : fs.set k v = fs2) (kk : J p l e R s m args below meth c Q nL G A cells slots (pc + 3) L st (hup h a (.inr (ci, fs2)))) : J p l e R s m args below meth c Q nL G A cells slots pc L (v :: .ref a :: st) h := by
  subst he
  exact j_put hX hF hdg ha hn hfit hk kk
theorem j_putFE (hX : CX p s m args c cc nL own G B A) {i ci k a : Nat} {ty : FieldType} (hF : FF own i ci k ty) (hin2 : meth.name = "<init>") (hdg : decode cc pc = .ok (.putfield i, 3)) {fs fs2 : List Value} {v : Value} (ha : h a = some (.inr (ci, fs))) (hn : narrow ty v = v) (hfit : fits ty v = true) (hk : k < fs.length) (he : fs.set k v = fs2) (kk : J p l e R s m args below meth c Q nL G A cells slots (pc + 3) L st (hup h a (.inr (ci, fs2)))) : J p l e R s m args below meth c Q nL G A cells slots pc L (v :: .ref a :: st) h := by
  subst he
  exact j_putF hX hF hin2 hdg ha hn hfit hk kk
end JE
def LEp (f : Int → Int) (w : Int) : Prop := ∀ v, 1 ≤ v → f v ≤ v → w ≤ v
theorem spn_cases (f : Int → Int) : (isL f (spn f) ∧ spn f ≤ 40000) ∨ (spn f = 0 ∧ ∀ v, 1 ≤ v → v ≤ 40000 → ¬ f v ≤ v) := by
  by_cases h : ∃ w, isL f w ∧ w ≤ 40000
  · obtain ⟨w, h1, h2⟩ := h
    rw [spn_some h1 h2]
    exact Or.inl ⟨h1, h2⟩
  · have h9 : ∀ k : Nat, ∀ v : Int, 1 ≤ v → v ≤ (k : Int) → k ≤ 40000 → ¬ f v ≤ v := by
      intro k
      induction k with
      | zero => intro v h1 h2 _; omega
      | succ k ih =>
        intro v h1 h2 h3 h4
        by_cases e : v ≤ (k : Int)
        · exact ih v h1 e (by omega) h4
        · exact h ⟨v, ⟨h1, h4, fun u u1 u2 => by
            by_cases e2 : u ≤ (k : Int)
            · exact absurd u2 (ih u u1 e2 (by omega))
            · omega⟩, by omega⟩
    have h8 : ∀ v, 1 ≤ v → v ≤ 40000 → ¬ f v ≤ v := fun v h1 h2 => h9 40000 v h1 h2 (Nat.le_refl _)
    exact Or.inr ⟨spn_none h8, h8⟩
theorem latT_0 {σ : St} {n m t : Nat} (hO : OK n m σ) (ht : 1 ≤ t ∧ t ≤ n) : latT σ t 0 = 0 := late_0 (hO.2.2.1 t ht.1 ht.2).2.2.2.1.1
theorem srch_start {σ : St} {n m t : Nat} (hO : OK n m σ) (ht : 1 ≤ t ∧ t ≤ n) {B best tu sp : Int} {k : Nat} (hb : best ≤ 0) : srch σ n m t B (k + 1) 0 best tu sp = srch σ n m t B (k + 1) 0 (-1) 0 0 := by
  unfold srch
  rw [latT_0 hO ht]
  rcases spn_cases (nee σ n m t B 0) with ⟨h1, h2⟩ | ⟨h1, -⟩
  · have := h1.1
    have z0 : ¬ spn (nee σ n m t B 0) = 0 := by omega
    have z1 : best < spn (nee σ n m t B 0) - 0 := by omega
    have z2 : -1 < spn (nee σ n m t B 0) - 0 := by omega
    rw [if_neg z0, if_neg z0, if_pos z1, if_pos z1, if_pos z2, if_pos z2]
  · rw [if_pos h1, if_pos h1]
theorem srch_b {σ : St} {n m t : Nat} {B : Int} : ∀ (k : Nat) (q best tu sp : Int), 0 ≤ q → q + k = 500 → (best = -1 ∨ (0 ≤ best ∧ (0 ≤ tu ∧ tu < 500) ∧ (1 ≤ sp ∧ sp ≤ 40000))) → (srch σ n m t B k q best tu sp).1 = -1 ∨ ((0 ≤ (srch σ n m t B k q best tu sp).1 ∧ (srch σ n m t B k q best tu sp).1 ≤ σ 1 t) ∧ (0 ≤ (srch σ n m t B k q best tu sp).2.1 ∧ (srch σ n m t B k q best tu sp).2.1 < 500) ∧ (1 ≤ (srch σ n m t B k q best tu sp).2.2 ∧ (srch σ n m t B k q best tu sp).2.2 ≤ 40000))
  | 0, _, _, _, _, _, _, _ => Or.inl rfl
  | k + 1, q, best, tu, sp, h0, h1, hb => by
    have hc := spn_cases (nee σ n m t B q)
    unfold srch
    generalize spn (nee σ n m t B q) = w at hc ⊢
    split
    · exact Or.inl rfl
    · rename_i hw0
      have hw : 1 ≤ w ∧ w ≤ 40000 := by
        rcases hc with ⟨c1, c2⟩ | ⟨c1, -⟩
        · exact ⟨c1.1, c2⟩
        · exact absurd c1 hw0
      split
      · split
        · split
          · exact Or.inl rfl
          · refine Or.inr ⟨⟨?_, ?_⟩, ⟨?_, ?_⟩, ⟨?_, ?_⟩⟩ <;> dsimp only <;> omega
        · split
          · exact Or.inl rfl
          · rcases hb with hb | ⟨hb1, hb2, hb3⟩
            · exact Or.inl hb
            · refine Or.inr ⟨⟨?_, ?_⟩, ⟨?_, ?_⟩, ⟨?_, ?_⟩⟩ <;> dsimp only <;> omega
      · split
        · exact srch_b k _ _ _ _ (by omega) (by omega) (Or.inr ⟨by omega, by omega, by omega⟩)
        · exact srch_b k _ _ _ _ (by omega) (by omega) hb
theorem ansF_b (σ : St) (n m t : Nat) : (ansF σ n m t).1 = -1 ∨ ((0 ≤ (ansF σ n m t).1 ∧ (ansF σ n m t).1 ≤ σ 1 t) ∧ (0 ≤ (ansF σ n m t).2.1 ∧ (ansF σ n m t).2.1 < 500) ∧ (1 ≤ (ansF σ n m t).2.2 ∧ (ansF σ n m t).2.2 ≤ 40000)) := srch_b 500 0 (-1) 0 0 (Int.le_refl 0) rfl (Or.inl rfl)
set_option maxRecDepth 100000 in
set_option maxHeartbeats 4000000 in
theorem c6_search {l : Launch} {G : Gt} {B : Nat} {h : hF} {b : Nat} {A9 : Nat → Nat} {σ : St} {n m : Nat} {sp tu th : Int} (hM : Mo G h b A9 σ n m sp tu th) {t : Nat} (ht : 1 ≤ t ∧ t ≤ n) (hO : OK n m σ) : Ct l G B yX6_search cX6_search 11 (some .long) 3 0 0 [.ref b, .int (iZ (t : Int))] h (fun v h' => v = .long (lZ (ansF σ n m t).1) ∧ ∃ sp2 tu2 : Int, Mo G h' b A9 σ n m sp2 tu2 th ∧ Fm h h' b A9 ∧ ((ansF σ n m t).1 ≠ -1 → sp2 = (ansF σ n m t).2.2 ∧ tu2 = (ansF σ n m t).2.1)) := by
  refine Ct.of (by decide) (Nat.le_of_ble_eq_true rfl) ?_
  intro p e s m9 below meth c A hX hR hin
  have hn16 := hO.1
  have hm8 := hO.2.1
  obtain ⟨o0, o1, o2, o3, o4, o5, o6, o7, o8, o9⟩ := hO.2.2.1 t ht.1 ht.2
  have hB := blk_b (t := t) hO
  have h_M := hM.1
  refine J_abs (J0 := J p l e _ s m9 _ below meth c _ _ G A) ?_
  intro JX hji hjo
  have lp : ∀ (k q : Nat) (best ww sp1 tu1 : Int) (h1 : hF), k + q = 500 → Mo G h1 b A9 σ n m sp1 tu1 th → Fm h h1 b A9 → 1 ≤ ww → ww ≤ 40000 → LEp (nee σ n m t (blk σ n t) q) ww → -1 ≤ best → best ≤ 40000 → srch σ n m t (blk σ n t) k q best tu1 sp1 = ansF σ n m t → JX 0 0 17 [(0, .ref b), (1, .int (iZ (t : Int))), (2, .long (lZ best)), (4, .long (lZ (blk σ n t))), (6, .long (lZ ww)), (8, .int (iZ ((q : Nat) : Int)))] [] h1 := by
    intro k
    induction k with
    | zero =>
      intro q best ww sp1 tu1 h1 hk hM1 hFm hw1 hw2 hLE hb1 hb2 hs
      have h_M := hM1.1
      refine hji ?_
      refine j_iload hX dX6_search_17 rfl ?_
      refine j_sipush hX dX6_search_19 (by decide) ?_
      refine j_icmp_ge hX 166 dX6_search_22 (by decide) (by omega) (by omega) (fun c22 => ?_) (fun c22 => absurd c22 (by omega))
      refine j_ldc2 hX k_X6_80 (z := -1) (by decide) dX6_search_166 ?_
      exact j_lret hX hR dX6_search_169 ⟨by rw [← hs]; rfl, sp1, tu1, hM1, hFm, fun z => absurd (by rw [← hs]; rfl) z⟩
    | succ k ih =>
      intro q best ww sp1 tu1 h1 hk hM1 hFm hw1 hw2 hLE hb1 hb2 hs
      have h_M := hM1.1
      have hl1 : 0 ≤ latT σ t q ∧ latT σ t q ≤ 10000000 := late_b o5 o4.1 o3 o1 (by omega)
      have hl2 : 0 ≤ latT σ t ((q : Int) + 1) ∧ latT σ t ((q : Int) + 1) ≤ 10000000 := late_b o5 o4.1 o3 o1 (by omega)
      have lq : ∀ (f : Nat) (ww : Int), 40000 - ww < (f : Int) → 1 ≤ ww → ww ≤ 40000 → LEp (nee σ n m t (blk σ n t) q) ww → JX 0 0 38 [(0, .ref b), (1, .int (iZ (t : Int))), (2, .long (lZ best)), (4, .long (lZ (blk σ n t))), (6, .long (lZ ww)), (8, .int (iZ ((q : Nat) : Int))), (9, .long (lZ (nee σ n m t (blk σ n t) q ww)))] [] h1 := by
        intro f
        induction f with
        | zero => intro ww hf hw1 hw2 hLE; exact absurd hf (by omega)
        | succ f ih2 =>
          intro ww hf hw1 hw2 hLE
          have hnb := nee_b hO ht (B := blk σ n t) (q := q) (w := ww) hB (by omega) (by omega)
          refine hji ?_
          refine j_lload hX dX6_search_38 rfl ?_
          refine j_lload hX dX6_search_40 rfl ?_
          refine j_lcmp_le hX 75 dX6_search_42 dX6_search_43 (by decide) (by omega) (by omega) (fun c42 => ?_) (fun c42 => ?_)
          · refine j_lload hX dX6_search_75 rfl ?_
            refine j_ldc2 hX k_X6_116 (z := 40000) (by decide) dX6_search_77 ?_
            refine j_lcmp_le hX 88 dX6_search_80 dX6_search_81 (by decide) (by omega) (by omega) (fun c80 => ?_) (fun c80 => absurd c80 (by omega))
            have hL : isL (nee σ n m t (blk σ n t) q) ww := ⟨hw1, by omega, hLE⟩
            have hsp := spn_some hL hw2
            unfold srch at hs
            rw [hsp, if_neg (show ¬ ww = 0 by omega)] at hs
            have h_a1 := hM1.a1
            refine j_lload hX dX6_search_88 rfl ?_
            refine j_aload_n hX dX6_search_90 rfl ?_
            refine j_iload_n hX dX6_search_91 rfl ?_
            refine j_iload hX dX6_search_92 rfl ?_
            refine j_callV hX cv_X6_118 (c6_later hM1 ht hO (by omega)) dX6_search_94 h_M rfl rfl (by exact ⟨Nat.le_of_ble_eq_true rfl, Nat.le_of_ble_eq_true rfl⟩) (by exact ⟨Nat.le_of_ble_eq_true rfl, Nat.le_of_ble_eq_true rfl⟩) (by exact Nat.le_of_ble_eq_true rfl) (fun v94 h94 hp94 => ?_) rfl
            obtain ⟨rfl, rfl⟩ := hp94
            refine j_lsub hX dX6_search_97 ?_
            refine j_lload_n hX dX6_search_98 rfl ?_
            refine j_lcmp_le hX 126 dX6_search_99 dX6_search_100 (by decide) (by omega) (by omega) (fun c99 => ?_) (fun c99 => ?_)
            · refine j_lload hX dX6_search_126 rfl ?_
              refine j_aload_n hX dX6_search_128 rfl ?_
              refine j_iload_n hX dX6_search_129 rfl ?_
              refine j_iload hX dX6_search_130 rfl ?_
              refine j_iconst hX dX6_search_132 ?_
              refine j_iadd hX dX6_search_133 ?_
              refine j_callV hX cv_X6_118 (c6_later hM1 ht hO (by omega)) dX6_search_134 h_M rfl rfl (by exact ⟨Nat.le_of_ble_eq_true rfl, Nat.le_of_ble_eq_true rfl⟩) (by exact ⟨Nat.le_of_ble_eq_true rfl, Nat.le_of_ble_eq_true rfl⟩) (by exact Nat.le_of_ble_eq_true rfl) (fun v134 h134 hp134 => ?_) rfl
              obtain ⟨rfl, rfl⟩ := hp134
              refine j_lcmp_gt hX 160 dX6_search_137 dX6_search_138 (by decide) (by omega) (by omega) (fun c137 => ?_) (fun c137 => ?_)
              · refine j_iinc hX dX6_search_160 rfl (by decide) ?_
                refine j_goto hX 17 dX6_search_163 (by decide) ?_
                rw [if_neg (by omega), if_neg (by omega)] at hs
                exact j_at (L' := [(0, .ref b), (1, .int (iZ (t : Int))), (2, .long (lZ _)), (4, .long (lZ (blk σ n t))), (6, .long (lZ _)), (8, .int (iZ (((q + 1) : Nat) : Int)))]) (hjo (ih (q + 1) _ ww _ _ _ (by omega) hM1 hFm hw1 hw2 (fun v v1 v2 => hLE v v1 (by have e := nee_succ (σ := σ) (n := n) (m := m) (t := t) (B := blk σ n t) (q := q) (w := v); have e2 : nee σ n m t (blk σ n t) ((q : Int) + 1) v ≤ v := v2; have e3 : 1 ≤ cosT σ t := (by unfold cosT; omega); omega)) (by omega) (by omega) hs)) ⟨rfl, rfl, rfl, rfl, rfl, rfl, trivial⟩
              · refine j_lload_n hX dX6_search_141 rfl ?_
                refine j_aload_n hX dX6_search_142 rfl ?_
                refine j_get hX fl_X6_13_8 dX6_search_143 h_M (by rfl) ?_
                refine j_iload_n hX dX6_search_146 rfl ?_
                refine j_laldN hX _ rfl dX6_search_147 h_a1 (by omega) (by decide) ?_
                refine j_lcmp_le hX 158 dX6_search_148 dX6_search_149 (by decide) (by omega) (by omega) (fun c148 => ?_) (fun c148 => ?_)
                · refine j_lload_n hX dX6_search_158 rfl ?_
                  rw [if_pos (by omega), if_neg (by omega), if_neg (by omega)] at hs
                  exact j_lret hX hR dX6_search_159 ⟨by rw [← hs], _, _, hM1, hFm, fun _ => by rw [← hs]; exact ⟨rfl, rfl⟩⟩
                · refine j_ldc2 hX k_X6_80 (z := -1) (by decide) dX6_search_152 ?_
                  refine j_goto hX 159 dX6_search_155 (by decide) ?_
                  rw [if_pos (by omega), if_neg (by omega), if_pos (by omega)] at hs
                  exact j_lret hX hR dX6_search_159 ⟨by rw [← hs], _, _, hM1, hFm, fun z => absurd (by rw [← hs]) z⟩
            · refine j_lload hX dX6_search_103 rfl ?_
              refine j_aload_n hX dX6_search_105 rfl ?_
              refine j_iload_n hX dX6_search_106 rfl ?_
              refine j_iload hX dX6_search_107 rfl ?_
              refine j_callV hX cv_X6_118 (c6_later hM1 ht hO (by omega)) dX6_search_109 h_M rfl rfl (by exact ⟨Nat.le_of_ble_eq_true rfl, Nat.le_of_ble_eq_true rfl⟩) (by exact ⟨Nat.le_of_ble_eq_true rfl, Nat.le_of_ble_eq_true rfl⟩) (by exact Nat.le_of_ble_eq_true rfl) (fun v109 h109 hp109 => ?_) rfl
              obtain ⟨rfl, rfl⟩ := hp109
              refine j_lsub hX dX6_search_112 ?_
              refine j_lstore_n hX dX6_search_113 (by decide) ?_
              refine j_aload_n hX dX6_search_114 rfl ?_
              refine j_lload hX dX6_search_115 rfl ?_
              refine j_putE hX fp_X6_122_8 dX6_search_117 h_M rfl rfl (Nat.le_of_ble_eq_true rfl) (fs2 := (MF A9 n m ww tu1 th)) rfl ?_
              have hM2 := hM1.fld (n' := n) (m' := m) (sp' := ww) (tu' := tu1) (th' := th)
              have h_M := hM2.1
              refine j_aload_n hX dX6_search_120 rfl ?_
              refine j_iload hX dX6_search_121 rfl ?_
              refine j_putE hX fp_X6_126_8 dX6_search_123 h_M rfl rfl (Nat.le_of_ble_eq_true rfl) (fs2 := (MF A9 n m ww q th)) rfl ?_
              have hM3 := hM2.fld (n' := n) (m' := m) (sp' := ww) (tu' := q) (th' := th)
              have h_M := hM3.1
              have h_a1 := hM3.a1
              refine j_lload hX dX6_search_126 rfl ?_
              refine j_aload_n hX dX6_search_128 rfl ?_
              refine j_iload_n hX dX6_search_129 rfl ?_
              refine j_iload hX dX6_search_130 rfl ?_
              refine j_iconst hX dX6_search_132 ?_
              refine j_iadd hX dX6_search_133 ?_
              refine j_callV hX cv_X6_118 (c6_later hM3 ht hO (by omega)) dX6_search_134 h_M rfl rfl (by exact ⟨Nat.le_of_ble_eq_true rfl, Nat.le_of_ble_eq_true rfl⟩) (by exact ⟨Nat.le_of_ble_eq_true rfl, Nat.le_of_ble_eq_true rfl⟩) (by exact Nat.le_of_ble_eq_true rfl) (fun v134 h134 hp134 => ?_) rfl
              obtain ⟨rfl, rfl⟩ := hp134
              refine j_lcmp_gt hX 160 dX6_search_137 dX6_search_138 (by decide) (by omega) (by omega) (fun c137 => ?_) (fun c137 => ?_)
              · refine j_iinc hX dX6_search_160 rfl (by decide) ?_
                refine j_goto hX 17 dX6_search_163 (by decide) ?_
                rw [if_neg (by omega), if_pos (by omega)] at hs
                exact j_at (L' := [(0, .ref b), (1, .int (iZ (t : Int))), (2, .long (lZ _)), (4, .long (lZ (blk σ n t))), (6, .long (lZ _)), (8, .int (iZ (((q + 1) : Nat) : Int)))]) (hjo (ih (q + 1) _ ww _ _ _ (by omega) hM3 ((hFm.b _).b _) hw1 hw2 (fun v v1 v2 => hLE v v1 (by have e := nee_succ (σ := σ) (n := n) (m := m) (t := t) (B := blk σ n t) (q := q) (w := v); have e2 : nee σ n m t (blk σ n t) ((q : Int) + 1) v ≤ v := v2; have e3 : 1 ≤ cosT σ t := (by unfold cosT; omega); omega)) (by omega) (by omega) hs)) ⟨rfl, rfl, rfl, rfl, rfl, rfl, trivial⟩
              · refine j_lload_n hX dX6_search_141 rfl ?_
                refine j_aload_n hX dX6_search_142 rfl ?_
                refine j_get hX fl_X6_13_8 dX6_search_143 h_M (by rfl) ?_
                refine j_iload_n hX dX6_search_146 rfl ?_
                refine j_laldN hX _ rfl dX6_search_147 h_a1 (by omega) (by decide) ?_
                refine j_lcmp_le hX 158 dX6_search_148 dX6_search_149 (by decide) (by omega) (by omega) (fun c148 => ?_) (fun c148 => ?_)
                · refine j_lload_n hX dX6_search_158 rfl ?_
                  rw [if_pos (by omega), if_pos (by omega), if_neg (by omega)] at hs
                  exact j_lret hX hR dX6_search_159 ⟨by rw [← hs], _, _, hM3, ((hFm.b _).b _), fun _ => by rw [← hs]; exact ⟨rfl, rfl⟩⟩
                · refine j_ldc2 hX k_X6_80 (z := -1) (by decide) dX6_search_152 ?_
                  refine j_goto hX 159 dX6_search_155 (by decide) ?_
                  rw [if_pos (by omega), if_pos (by omega), if_pos (by omega)] at hs
                  exact j_lret hX hR dX6_search_159 ⟨by rw [← hs], _, _, hM3, ((hFm.b _).b _), fun z => absurd (by rw [← hs]) z⟩
          · refine j_lload hX dX6_search_46 rfl ?_
            refine j_ldc2 hX k_X6_116 (z := 40000) (by decide) dX6_search_48 ?_
            refine j_lcmp_gt hX 75 dX6_search_51 dX6_search_52 (by decide) (by omega) (by omega) (fun c51 => ?_) (fun c51 => ?_)
            · refine j_lload hX dX6_search_75 rfl ?_
              refine j_ldc2 hX k_X6_116 (z := 40000) (by decide) dX6_search_77 ?_
              refine j_lcmp_le hX 88 dX6_search_80 dX6_search_81 (by decide) (by omega) (by omega) (fun c80 => absurd c80 (by omega)) (fun c80 => ?_)
              refine j_ldc2 hX k_X6_80 (z := -1) (by decide) dX6_search_84 ?_
              have hz := spn_none (f := nee σ n m t (blk σ n t) q) (fun v v1 v2 v3 => by have e1 := hLE v v1 v3; have e2 := nee_mono hO (t := t) (B := blk σ n t) (q := q) e1; omega)
              unfold srch at hs
              rw [if_pos hz] at hs
              exact j_lret hX hR dX6_search_87 ⟨by rw [← hs], sp1, tu1, hM1, hFm, fun z => absurd (by rw [← hs]) z⟩
            · refine j_lload hX dX6_search_55 rfl ?_
              refine j_lstore hX dX6_search_57 (by decide) ?_
              refine j_aload_n hX dX6_search_59 rfl ?_
              refine j_iload_n hX dX6_search_60 rfl ?_
              refine j_iload hX dX6_search_61 rfl ?_
              refine j_lload hX dX6_search_63 rfl ?_
              refine j_lload hX dX6_search_65 rfl ?_
              refine j_callV hX cv_X6_112 (c6_need hM1 ht hO (by omega) (by omega) hB) dX6_search_67 h_M rfl rfl (by exact ⟨Nat.le_of_ble_eq_true rfl, Nat.le_of_ble_eq_true rfl⟩) (by exact ⟨Nat.le_of_ble_eq_true rfl, Nat.le_of_ble_eq_true rfl⟩) (by exact Nat.le_of_ble_eq_true rfl) (fun v67 h67 hp67 => ?_) rfl
              obtain ⟨rfl, rfl⟩ := hp67
              refine j_lstore hX dX6_search_70 (by decide) ?_
              refine j_goto hX 38 dX6_search_72 (by decide) ?_
              exact j_at (L' := [(0, .ref b), (1, .int (iZ (t : Int))), (2, .long (lZ best)), (4, .long (lZ (blk σ n t))), (6, .long (lZ (nee σ n m t (blk σ n t) q ww))), (8, .int (iZ ((q : Nat) : Int))), (9, .long (lZ (nee σ n m t (blk σ n t) q (nee σ n m t (blk σ n t) q ww))))]) (hjo (ih2 _ (by omega) (by omega) (by omega) (fun v v1 v2 => by have e1 := hLE v v1 v2; have e2 := nee_mono hO (t := t) (B := blk σ n t) (q := q) e1; omega))) ⟨rfl, rfl, rfl, rfl, rfl, rfl, rfl, trivial⟩
      refine hji ?_
      refine j_iload hX dX6_search_17 rfl ?_
      refine j_sipush hX dX6_search_19 (by decide) ?_
      refine j_icmp_ge hX 166 dX6_search_22 (by decide) (by omega) (by omega) (fun c22 => absurd c22 (by omega)) (fun c22 => ?_)
      refine j_aload_n hX dX6_search_25 rfl ?_
      refine j_iload_n hX dX6_search_26 rfl ?_
      refine j_iload hX dX6_search_27 rfl ?_
      refine j_lload hX dX6_search_29 rfl ?_
      refine j_lload hX dX6_search_31 rfl ?_
      refine j_callV hX cv_X6_112 (c6_need hM1 ht hO (by omega) (by omega) hB) dX6_search_33 h_M rfl rfl (by exact ⟨Nat.le_of_ble_eq_true rfl, Nat.le_of_ble_eq_true rfl⟩) (by exact ⟨Nat.le_of_ble_eq_true rfl, Nat.le_of_ble_eq_true rfl⟩) (by exact Nat.le_of_ble_eq_true rfl) (fun v33 h33 hp33 => ?_) rfl
      obtain ⟨rfl, rfl⟩ := hp33
      refine j_lstore hX dX6_search_36 (by decide) ?_
      exact j_at (L' := [(0, .ref b), (1, .int (iZ (t : Int))), (2, .long (lZ best)), (4, .long (lZ (blk σ n t))), (6, .long (lZ ww)), (8, .int (iZ ((q : Nat) : Int))), (9, .long (lZ (nee σ n m t (blk σ n t) q ww)))]) (hjo (lq (40001 - ww).toNat ww (by omega) hw1 hw2 hLE)) ⟨rfl, rfl, rfl, rfl, rfl, rfl, rfl, trivial⟩
  refine hji ?_
  refine j_ldc2 hX k_X6_80 (z := -1) (by decide) dX6_search_0 ?_
  refine j_lstore_n hX dX6_search_3 (by decide) ?_
  refine j_aload_n hX dX6_search_4 rfl ?_
  refine j_iload_n hX dX6_search_5 rfl ?_
  refine j_callV hX cv_X6_109 (c6_blocking hM ht hO) dX6_search_6 h_M rfl rfl (by exact ⟨Nat.le_of_ble_eq_true rfl, Nat.le_of_ble_eq_true rfl⟩) (by exact ⟨Nat.le_of_ble_eq_true rfl, Nat.le_of_ble_eq_true rfl⟩) (by exact Nat.le_of_ble_eq_true rfl) (fun v6 h6 hp6 => ?_) rfl
  obtain ⟨rfl, rfl⟩ := hp6
  refine j_lstore hX dX6_search_9 (by decide) ?_
  refine j_lconst1 hX dX6_search_11 ?_
  refine j_lstore hX dX6_search_12 (by decide) ?_
  refine j_iconst hX dX6_search_14 ?_
  refine j_istore hX dX6_search_15 (by decide) ?_
  exact j_at (L' := [(0, .ref b), (1, .int (iZ (t : Int))), (2, .long (lZ (-1))), (4, .long (lZ (blk σ n t))), (6, .long (lZ 1)), (8, .int (iZ ((0 : Nat) : Int)))]) (hjo (lp 500 0 (-1) 1 sp tu h rfl hM (Fm.rf h b A9) (by omega) (by omega) (fun v v1 v2 => v1) (by omega) (by omega) (srch_start hO ht (by omega)))) ⟨rfl, rfl, rfl, rfl, rfl, rfl, trivial⟩
end
section
/-! THE REFERENCE: allAnswer, answer, load, busy, longer -/
theorem Ct.mono {l : Launch} {G : Gt} {B : Nat} {y : MethodName} {bytes : ByteArray} {maxL : Nat} {ret : Option FieldType} {d mc ms : Nat} {args : List Value} {h : hF} {post post' : Value → hF → Prop} (H : Ct l G B y bytes maxL ret d mc ms args h post) (hp : ∀ v h', post v h' → post' v h') : Ct l G B y bytes maxL ret d mc ms args h post' := by
  intro sz p e ha hc hk s m args' below hf happ hP hK
  obtain ⟨n, o, h1, h2, h3, ⟨⟨v, h', q1, q2, q3⟩, q4⟩⟩ := H sz p e ha hc hk s m args' below hf happ hP hK
  exact ⟨n, o, h1, h2, h3, ⟨v, h', q1, hp _ _ q2, q3⟩, q4⟩
def alU (σ : St) (n m t : Nat) : Prop := ∀ o : Nat, 1 ≤ o → o < t → (ansF σ n m o).1 ≠ -1
def allA (σ : St) (n m : Nat) : Prop := ∀ o : Nat, 1 ≤ o → o ≤ n → (ansF σ n m o).1 ≠ -1
theorem alU_all {σ : St} {n m t : Nat} (h : t = n + 1) : alU σ n m t ↔ allA σ n m := by
  subst h
  exact ⟨fun z o h1 h2 => z o h1 (by omega), fun z o h1 h2 => z o h1 (by omega)⟩
theorem alU_not {σ : St} {n m t : Nat} (h : t ≤ n + 1) (q : ¬ alU σ n m t) : ¬ allA σ n m := fun z => q (fun o h1 h2 => z o h1 (by omega))
theorem alU_step {σ : St} {n m t : Nat} (ht : 1 ≤ t) : alU σ n m (t + 1) ↔ alU σ n m t ∧ (ansF σ n m t).1 ≠ -1 := by
  constructor
  · intro z
    exact ⟨fun o h1 h2 => z o h1 (by omega), z t ht (by omega)⟩
  · rintro ⟨z1, z2⟩ o h1 h2
    by_cases e : o = t
    · subst e; exact z2
    · exact z1 o h1 (by omega)
def loT (σ : St) : Nat → Int
  | 0 => 0
  | o + 1 => loT σ o + loaI (σ 0 (o + 1)) (σ 6 (o + 1)) (σ 4 (o + 1)) (σ 1 (o + 1))
def loI (σ : St) : Nat → Int
  | 0 => 0
  | i + 1 => loI σ i + 1000000 * σ 12 (i + 1) / σ 13 (i + 1)
theorem loaI_b {own spin many per : Int} (h0 : 1 ≤ own ∧ own ≤ 1000) (h6 : 0 ≤ spin ∧ spin ≤ 1000) (h4 : 1 ≤ many ∧ many ≤ 20) (h1 : 1 ≤ per) : 0 ≤ loaI own spin many per ∧ loaI own spin many per ≤ 40000000000 := by
  have b3 := mulb (a := 1000000) (A := 1000000) (by omega) (show 0 ≤ many ∧ many ≤ 20 by omega)
  have b4 := mulb b3 (show 0 ≤ own + spin ∧ own + spin ≤ 2000 by omega)
  exact divb (A := 40000000000) (by omega) (show 0 < per by omega)
theorem loT_b {σ : St} {n m : Nat} (hO : OK n m σ) : ∀ o : Nat, o ≤ n → 0 ≤ loT σ o ∧ loT σ o ≤ (o : Int) * 40000000000
  | 0, _ => ⟨Int.le_refl 0, by show (0 : Int) ≤ _; omega⟩
  | o + 1, h => by
    have ih := loT_b hO o (by omega)
    obtain ⟨h0, h1, h2, h3, h4, h5, h6, -⟩ := hO.2.2.1 (o + 1) (by omega) h
    have := loaI_b h0 h6 h4 h1.1
    unfold loT
    omega
theorem loI_b {σ : St} {n m : Nat} (hO : OK n m σ) : ∀ i : Nat, i ≤ m → 0 ≤ loI σ i ∧ loI σ i ≤ (i : Int) * 1000000000
  | 0, _ => ⟨Int.le_refl 0, by show (0 : Int) ≤ _; omega⟩
  | i + 1, h => by
    have ih := loI_b hO i (by omega)
    obtain ⟨h0, h1⟩ := hO.2.2.2 (i + 1) (by omega) h
    have b := divb (a := 1000000 * σ 12 (i + 1)) (A := 1000000000) (by omega) (show 0 < σ 13 (i + 1) by omega)
    unfold loI
    omega
noncomputable def cntF (σ : St) (n m : Nat) : Nat → Int
  | 0 => 0
  | o + 1 => cntF σ n m o + if 0 ≤ (ansF σ n m (o + 1)).1 then 1 else 0
noncomputable def mxF (σ : St) (n m : Nat) : Nat → Int
  | 0 => 0
  | o + 1 => if mxF σ n m o < (ansF σ n m (o + 1)).1 then (ansF σ n m (o + 1)).1 else mxF σ n m o
noncomputable def busyF (σ : St) (n m : Nat) (side : Int) : Int := if side = 0 then loT σ n + loI σ m else if side = 1 then cntF σ n m n else mxF σ n m n
theorem ans_b {σ : St} {n m t : Nat} (hO : OK n m σ) (ht : 1 ≤ t ∧ t ≤ n) : -1 ≤ (ansF σ n m t).1 ∧ (ansF σ n m t).1 ≤ 20000 := by
  have h1 := (hO.2.2.1 t ht.1 ht.2).2.1
  rcases ansF_b σ n m t with h | h <;> omega
theorem cntF_b (σ : St) (n m : Nat) : ∀ o : Nat, 0 ≤ cntF σ n m o ∧ cntF σ n m o ≤ (o : Int)
  | 0 => ⟨Int.le_refl 0, Int.le_refl 0⟩
  | o + 1 => by
    have ih := cntF_b σ n m o
    unfold cntF
    split <;> omega
theorem mxF_b {σ : St} {n m : Nat} (hO : OK n m σ) : ∀ o : Nat, o ≤ n → 0 ≤ mxF σ n m o ∧ mxF σ n m o ≤ 20000
  | 0, _ => ⟨Int.le_refl 0, by show (0 : Int) ≤ 20000; omega⟩
  | o + 1, h => by
    have ih := mxF_b hO o (by omega)
    have := ans_b hO (t := o + 1) ⟨by omega, h⟩
    unfold mxF
    split <;> omega
set_option maxRecDepth 100000 in
set_option maxHeartbeats 4000000 in
theorem c6_allAnswer {l : Launch} {G : Gt} {B : Nat} {h : hF} {b : Nat} {A9 : Nat → Nat} {σ : St} {n m : Nat} {sp tu th : Int} (hM : Mo G h b A9 σ n m sp tu th) (hO : OK n m σ) : Ct l G B yX6_allAnswer cX6_allAnswer 3 (some .boolean) 4 0 0 [.ref b] h (fun v h' => (∃ x : Int, v = .int (iZ x) ∧ flg x (allA σ n m)) ∧ ∃ sp2 tu2 : Int, Mo G h' b A9 σ n m sp2 tu2 th ∧ Fm h h' b A9) := by
  refine Ct.of (by decide) (Nat.le_of_ble_eq_true rfl) ?_
  intro p e s m9 below meth c A hX hR hin
  have hn16 := hO.1
  have hm8 := hO.2.1
  refine J_abs (J0 := J p l e _ s m9 _ below meth c _ _ G A) ?_
  intro JX hji hjo
  have lp : ∀ (d t : Nat) (x sp1 tu1 : Int) (h1 : hF), d + t = n + 1 → 1 ≤ t → Mo G h1 b A9 σ n m sp1 tu1 th → Fm h h1 b A9 → flg x (alU σ n m t) → JX 0 0 4 [(0, .ref b), (1, .int (iZ x)), (2, .int (iZ ((t : Nat) : Int)))] [] h1 := by
    intro d
    induction d with
    | zero =>
      intro t x sp1 tu1 h1 hd ht hM1 hFm hx
      have h_M := hM1.1
      refine hji ?_
      refine j_iload_n hX dX6_allAnswer_4 rfl ?_
      refine j_aload_n hX dX6_allAnswer_5 rfl ?_
      refine j_get hX fl_X6_67_8 dX6_allAnswer_6 h_M (by rfl) ?_
      refine j_icmp_gt hX 38 dX6_allAnswer_9 (by decide) (by omega) (by omega) (fun c9 => ?_) (fun c9 => absurd c9 (by omega))
      refine j_iload_n hX dX6_allAnswer_38 rfl ?_
      exact j_zret hX hR dX6_allAnswer_39 (by rcases hx with ⟨z, _⟩ | ⟨z, _⟩ <;> omega) ⟨⟨x, rfl, hx.iff (alU_all (by omega))⟩, sp1, tu1, hM1, hFm⟩
    | succ d ih =>
      intro t x sp1 tu1 h1 hd ht hM1 hFm hx
      have h_M := hM1.1
      have hx1 : x = 0 ∨ x = 1 := by rcases hx with ⟨z, _⟩ | ⟨z, _⟩ <;> omega
      have hab := ans_b hO (t := t) ⟨ht, by omega⟩
      refine hji ?_
      refine j_iload_n hX dX6_allAnswer_4 rfl ?_
      refine j_aload_n hX dX6_allAnswer_5 rfl ?_
      refine j_get hX fl_X6_67_8 dX6_allAnswer_6 h_M (by rfl) ?_
      refine j_icmp_gt hX 38 dX6_allAnswer_9 (by decide) (by omega) (by omega) (fun c9 => absurd c9 (by omega)) (fun c9 => ?_)
      refine j_iload_n hX dX6_allAnswer_12 rfl ?_
      refine j_if_eq hX 38 dX6_allAnswer_13 (by decide) (by omega) (fun c13 => ?_) (fun c13 => ?_)
      · refine j_iload_n hX dX6_allAnswer_38 rfl ?_
        exact j_zret hX hR dX6_allAnswer_39 (by omega) ⟨⟨x, rfl, Or.inr ⟨by omega, alU_not (t := t) (by omega) (by rcases hx with ⟨z, _⟩ | ⟨_, z⟩; omega; exact z)⟩⟩, sp1, tu1, hM1, hFm⟩
      · refine j_aload_n hX dX6_allAnswer_16 rfl ?_
        refine j_iload_n hX dX6_allAnswer_17 rfl ?_
        refine j_callV hX cv_X6_129 (c6_search hM1 ⟨ht, by omega⟩ hO) dX6_allAnswer_18 h_M rfl rfl (by exact ⟨Nat.le_of_ble_eq_true rfl, Nat.le_of_ble_eq_true rfl⟩) (by exact ⟨Nat.le_of_ble_eq_true rfl, Nat.le_of_ble_eq_true rfl⟩) (by exact Nat.le_of_ble_eq_true rfl) (fun v18 h18 hp18 => ?_) rfl
        obtain ⟨rfl, sp2, tu2, hM2, hF2, hres⟩ := hp18
        have hxa : alU σ n m t := by rcases hx with ⟨_, z⟩ | ⟨z, _⟩; exact z; omega
        refine j_lconst0 hX dX6_allAnswer_21 ?_
        refine j_lcmp_lt hX 30 dX6_allAnswer_22 dX6_allAnswer_23 (by decide) (by omega) (by omega) (fun c22 => ?_) (fun c22 => ?_)
        · refine j_iconst hX dX6_allAnswer_30 ?_
          refine j_istore_n hX dX6_allAnswer_31 (by decide) ?_
          refine j_iinc hX dX6_allAnswer_32 rfl (by decide) ?_
          refine j_goto hX 4 dX6_allAnswer_35 (by decide) ?_
          exact j_at (L' := [(0, .ref b), (1, .int (iZ _)), (2, .int (iZ (((t + 1) : Nat) : Int)))]) (hjo (ih (t + 1) _ _ _ _ (by omega) (by omega) hM2 (hFm.tr hF2) (Or.inr ⟨rfl, fun z => ((alU_step ht).mp z).2 (by omega)⟩))) ⟨rfl, rfl, rfl, trivial⟩
        · refine j_iconst hX dX6_allAnswer_26 ?_
          refine j_goto hX 31 dX6_allAnswer_27 (by decide) ?_
          refine j_istore_n hX dX6_allAnswer_31 (by decide) ?_
          refine j_iinc hX dX6_allAnswer_32 rfl (by decide) ?_
          refine j_goto hX 4 dX6_allAnswer_35 (by decide) ?_
          exact j_at (L' := [(0, .ref b), (1, .int (iZ _)), (2, .int (iZ (((t + 1) : Nat) : Int)))]) (hjo (ih (t + 1) _ _ _ _ (by omega) (by omega) hM2 (hFm.tr hF2) (Or.inl ⟨rfl, (alU_step ht).mpr ⟨hxa, by omega⟩⟩))) ⟨rfl, rfl, rfl, trivial⟩
  refine hji ?_
  refine j_iconst hX dX6_allAnswer_0 ?_
  refine j_istore_n hX dX6_allAnswer_1 (by decide) ?_
  refine j_iconst hX dX6_allAnswer_2 ?_
  refine j_istore_n hX dX6_allAnswer_3 (by decide) ?_
  exact j_at (L' := [(0, .ref b), (1, .int (iZ 1)), (2, .int (iZ ((1 : Nat) : Int)))]) (hjo (lp n 1 1 sp tu h (by omega) (by omega) hM (Fm.rf h b A9) (Or.inl ⟨rfl, fun o h1 h2 => absurd h1 (by omega)⟩))) ⟨rfl, rfl, rfl, trivial⟩
set_option maxRecDepth 100000 in
set_option maxHeartbeats 4000000 in
theorem c6_load {l : Launch} {G : Gt} {B : Nat} {h : hF} {b : Nat} {A9 : Nat → Nat} {σ : St} {n m : Nat} {sp tu th : Int} (hM : Mo G h b A9 σ n m sp tu th) (hO : OK n m σ) : Ct l G B yX6_load cX6_load 4 (some .long) 1 0 0 [.ref b] h (fun v h' => v = .long (lZ (loT σ n + loI σ m)) ∧ h = h') := by
  refine Ct.of (by decide) (Nat.le_of_ble_eq_true rfl) ?_
  intro p e s m9 below meth c A hX hR hin
  have h_M := hM.1
  have h_a1 := hM.a1
  have h_a4 := hM.a4
  have h_a12 := hM.a12
  have h_a13 := hM.a13
  have hn16 := hO.1
  have hm8 := hO.2.1
  have hlT := loT_b hO
  have hlI := loI_b hO
  refine J_abs (J0 := J p l e _ s m9 _ below meth c _ _ G A) ?_
  intro JX hji hjo
  have li : ∀ (d o : Nat) (x : Int), d + o = m + 1 → 1 ≤ o → x = loT σ n + loI σ (o - 1) → JX 0 0 47 [(0, .ref b), (1, .long (lZ x)), (3, .int (iZ ((o : Nat) : Int)))] [] h := by
    intro d
    induction d with
    | zero =>
      intro o x hd ho hx
      refine hji ?_
      refine j_iload_n hX dX6_load_47 rfl ?_
      refine j_aload_n hX dX6_load_48 rfl ?_
      refine j_get hX fl_X6_90_8 dX6_load_49 h_M (by rfl) ?_
      refine j_icmp_gt hX 81 dX6_load_52 (by decide) (by omega) (by omega) (fun c52 => ?_) (fun c52 => absurd c52 (by omega))
      refine j_lload_n hX dX6_load_81 rfl ?_
      exact j_lret hX hR dX6_load_82 ⟨by rw [hx, show o - 1 = m by omega], rfl⟩
    | succ d ih =>
      intro o x hd ho hx
      obtain ⟨o1, rfl⟩ : ∃ o1, o = o1 + 1 := ⟨o - 1, by omega⟩
      obtain ⟨i0, i1⟩ := hO.2.2.2 (o1 + 1) (by omega) (by omega)
      refine hji ?_
      refine j_iload_n hX dX6_load_47 rfl ?_
      refine j_aload_n hX dX6_load_48 rfl ?_
      refine j_get hX fl_X6_90_8 dX6_load_49 h_M (by rfl) ?_
      refine j_icmp_gt hX 81 dX6_load_52 (by decide) (by omega) (by omega) (fun c52 => absurd c52 (by omega)) (fun c52 => ?_)
      refine j_lload_n hX dX6_load_55 rfl ?_
      refine j_ldc2 hX k_X6_142 (z := 1000000) (by decide) dX6_load_56 ?_
      refine j_aload_n hX dX6_load_59 rfl ?_
      refine j_get hX fl_X6_44_8 dX6_load_60 h_M (by rfl) ?_
      refine j_iload_n hX dX6_load_63 rfl ?_
      refine j_laldN hX _ rfl dX6_load_64 h_a12 (by omega) (by decide) ?_
      refine j_lmul hX dX6_load_65 ?_
      refine j_aload_n hX dX6_load_66 rfl ?_
      refine j_get hX fl_X6_47_8 dX6_load_67 h_M (by rfl) ?_
      refine j_iload_n hX dX6_load_70 rfl ?_
      refine j_laldN hX _ rfl dX6_load_71 h_a13 (by omega) (by decide) ?_
      refine j_ldiv hX dX6_load_72 (by omega) (by omega) ?_
      refine j_ladd hX dX6_load_73 ?_
      refine j_lstore_n hX dX6_load_74 (by decide) ?_
      refine j_iinc hX dX6_load_75 rfl (by decide) ?_
      refine j_goto hX 47 dX6_load_78 (by decide) ?_
      exact j_at (L' := [(0, .ref b), (1, .long (lZ _)), (3, .int (iZ (((o1 + 1 + 1) : Nat) : Int)))]) (hjo (ih (o1 + 1 + 1) _ (by omega) (by omega) (by rw [hx]; show _ = _ + (loI σ o1 + _); rw [show o1 + 1 - 1 = o1 by omega]; omega))) ⟨rfl, rfl, rfl, trivial⟩
  have lp : ∀ (d o : Nat) (x : Int), d + o = n + 1 → 1 ≤ o → x = loT σ (o - 1) → JX 0 0 4 [(0, .ref b), (1, .long (lZ x)), (3, .int (iZ ((o : Nat) : Int)))] [] h := by
    intro d
    induction d with
    | zero =>
      intro o x hd ho hx
      refine hji ?_
      refine j_iload_n hX dX6_load_4 rfl ?_
      refine j_aload_n hX dX6_load_5 rfl ?_
      refine j_get hX fl_X6_67_8 dX6_load_6 h_M (by rfl) ?_
      refine j_icmp_gt hX 45 dX6_load_9 (by decide) (by omega) (by omega) (fun c9 => ?_) (fun c9 => absurd c9 (by omega))
      refine j_iconst hX dX6_load_45 ?_
      refine j_istore_n hX dX6_load_46 (by decide) ?_
      exact j_at (L' := [(0, .ref b), (1, .long (lZ x)), (3, .int (iZ ((1 : Nat) : Int)))]) (hjo (li m 1 x (by omega) (by omega) (by rw [hx, show o - 1 = n by omega]; show _ = _ + 0; omega))) ⟨rfl, rfl, rfl, trivial⟩
    | succ d ih =>
      intro o x hd ho hx
      obtain ⟨o1, rfl⟩ : ∃ o1, o = o1 + 1 := ⟨o - 1, by omega⟩
      obtain ⟨a0, a1, a2, a3, a4, a5, a6, a7, a8, a9⟩ := hO.2.2.1 (o1 + 1) (by omega) (by omega)
      have m1 := mulb (a := 1000000) (A := 1000000) (by omega) (show 0 ≤ σ 4 (o1 + 1) ∧ σ 4 (o1 + 1) ≤ 20 by omega)
      have m2 := mulb m1 (show 0 ≤ cosT σ (o1 + 1) ∧ cosT σ (o1 + 1) ≤ 2000 by unfold cosT; omega)
      refine hji ?_
      refine j_iload_n hX dX6_load_4 rfl ?_
      refine j_aload_n hX dX6_load_5 rfl ?_
      refine j_get hX fl_X6_67_8 dX6_load_6 h_M (by rfl) ?_
      refine j_icmp_gt hX 45 dX6_load_9 (by decide) (by omega) (by omega) (fun c9 => absurd c9 (by omega)) (fun c9 => ?_)
      refine j_lload_n hX dX6_load_12 rfl ?_
      refine j_ldc2 hX k_X6_142 (z := 1000000) (by decide) dX6_load_13 ?_
      refine j_aload_n hX dX6_load_16 rfl ?_
      refine j_get hX fl_X6_23_8 dX6_load_17 h_M (by rfl) ?_
      refine j_iload_n hX dX6_load_20 rfl ?_
      refine j_ialdN hX _ rfl dX6_load_21 h_a4 (by omega) (by decide) ?_
      refine j_i2l hX dX6_load_22 (by omega) ?_
      refine j_lmul hX dX6_load_23 ?_
      refine j_aload_n hX dX6_load_24 rfl ?_
      refine j_iload_n hX dX6_load_25 rfl ?_
      refine j_callV hX cv_X6_101 (c6_cost hM ⟨by omega, by omega⟩ hO) dX6_load_26 h_M rfl rfl (by exact ⟨Nat.le_of_ble_eq_true rfl, Nat.le_of_ble_eq_true rfl⟩) (by exact ⟨Nat.le_of_ble_eq_true rfl, Nat.le_of_ble_eq_true rfl⟩) (by exact Nat.le_of_ble_eq_true rfl) (fun v26 h26 hp26 => ?_) rfl
      obtain ⟨rfl, rfl⟩ := hp26
      refine j_lmul hX dX6_load_29 ?_
      refine j_aload_n hX dX6_load_30 rfl ?_
      refine j_get hX fl_X6_13_8 dX6_load_31 h_M (by rfl) ?_
      refine j_iload_n hX dX6_load_34 rfl ?_
      refine j_laldN hX _ rfl dX6_load_35 h_a1 (by omega) (by decide) ?_
      refine j_ldiv hX dX6_load_36 (by omega) (by omega) ?_
      refine j_ladd hX dX6_load_37 ?_
      refine j_lstore_n hX dX6_load_38 (by decide) ?_
      refine j_iinc hX dX6_load_39 rfl (by decide) ?_
      refine j_goto hX 4 dX6_load_42 (by decide) ?_
      exact j_at (L' := [(0, .ref b), (1, .long (lZ _)), (3, .int (iZ (((o1 + 1 + 1) : Nat) : Int)))]) (hjo (ih (o1 + 1 + 1) _ (by omega) (by omega) (by rw [hx]; rfl))) ⟨rfl, rfl, rfl, trivial⟩
  refine hji ?_
  refine j_lconst0 hX dX6_load_0 ?_
  refine j_lstore_n hX dX6_load_1 (by decide) ?_
  refine j_iconst hX dX6_load_2 ?_
  refine j_istore_n hX dX6_load_3 (by decide) ?_
  exact j_at (L' := [(0, .ref b), (1, .long (lZ _)), (3, .int (iZ ((1 : Nat) : Int)))]) (hjo (lp n 1 _ (by omega) (by omega) rfl)) ⟨rfl, rfl, rfl, trivial⟩
set_option maxRecDepth 100000 in
set_option maxHeartbeats 4000000 in
theorem c6_busy {l : Launch} {G : Gt} {B : Nat} {h : hF} {b : Nat} {A9 : Nat → Nat} {σ : St} {n m : Nat} {sp tu th : Int} (hM : Mo G h b A9 σ n m sp tu th) (hO : OK n m σ) {side : Int} (hsd9 : -2147483648 ≤ side ∧ side < 2147483648) : Ct l G B yX6_busy cX6_busy 9 (some .long) 4 0 0 [.ref b, .int (iZ side)] h (fun v h' => v = .long (lZ (busyF σ n m side)) ∧ ∃ sp2 tu2 : Int, Mo G h' b A9 σ n m sp2 tu2 0 ∧ Fm h h' b A9) := by
  refine Ct.of (by decide) (Nat.le_of_ble_eq_true rfl) ?_
  intro p e s m9 below meth c A hX hR hin
  have hn16 := hO.1
  have hm8 := hO.2.1
  have h_M := hM.1
  refine J_abs (J0 := J p l e _ s m9 _ below meth c _ _ G A) ?_
  intro JX hji hjo
  have lp : ∀ (d t : Nat) (x y sp1 tu1 : Int) (h1 : hF), side ≠ 0 → d + t = n + 1 → 1 ≤ t → Mo G h1 b A9 σ n m sp1 tu1 0 → Fm h h1 b A9 → x = cntF σ n m (t - 1) → y = mxF σ n m (t - 1) → JX 0 0 22 [(0, .ref b), (1, .int (iZ side)), (2, .long (lZ x)), (4, .long (lZ y)), (6, .int (iZ ((t : Nat) : Int)))] [] h1 := by
    intro d
    induction d with
    | zero =>
      intro t x y sp1 tu1 h1 hsd hd ht hM1 hFm hx1 hx2
      have h_M := hM1.1
      refine hji ?_
      refine j_iload hX dX6_busy_22 rfl ?_
      refine j_aload_n hX dX6_busy_24 rfl ?_
      refine j_get hX fl_X6_67_8 dX6_busy_25 h_M (by rfl) ?_
      refine j_icmp_gt hX 77 dX6_busy_28 (by decide) (by omega) (by omega) (fun c28 => ?_) (fun c28 => absurd c28 (by omega))
      refine j_iload_n hX dX6_busy_77 rfl ?_
      refine j_iconst hX dX6_busy_78 ?_
      refine j_icmp_ne hX 86 dX6_busy_79 (by decide) (by omega) (by omega) (fun c79 => ?_) (fun c79 => ?_)
      · refine j_lload hX dX6_busy_86 rfl ?_
        exact j_lret hX hR dX6_busy_88 ⟨by unfold busyF; (repeat' split) <;> first | (exfalso; omega) | rfl | (rw [hx1, show t - 1 = n by omega]) | (rw [hx2, show t - 1 = n by omega]), sp1, tu1, hM1, hFm⟩
      · refine j_lload_n hX dX6_busy_82 rfl ?_
        refine j_goto hX 88 dX6_busy_83 (by decide) ?_
        exact j_lret hX hR dX6_busy_88 ⟨by unfold busyF; (repeat' split) <;> first | (exfalso; omega) | rfl | (rw [hx1, show t - 1 = n by omega]) | (rw [hx2, show t - 1 = n by omega]), sp1, tu1, hM1, hFm⟩
    | succ d ih =>
      intro t x y sp1 tu1 h1 hsd hd ht hM1 hFm hx1 hx2
      have h_M := hM1.1
      obtain ⟨o1, rfl⟩ : ∃ o1, t = o1 + 1 := ⟨t - 1, by omega⟩
      have hab := ans_b hO (t := o1 + 1) ⟨ht, by omega⟩
      have hcb := cntF_b σ n m o1
      have hmb := mxF_b hO o1 (by omega)
      rw [show o1 + 1 - 1 = o1 by omega] at hx1 hx2
      refine hji ?_
      refine j_iload hX dX6_busy_22 rfl ?_
      refine j_aload_n hX dX6_busy_24 rfl ?_
      refine j_get hX fl_X6_67_8 dX6_busy_25 h_M (by rfl) ?_
      refine j_icmp_gt hX 77 dX6_busy_28 (by decide) (by omega) (by omega) (fun c28 => absurd c28 (by omega)) (fun c28 => ?_)
      refine j_aload_n hX dX6_busy_31 rfl ?_
      refine j_iload hX dX6_busy_32 rfl ?_
      refine j_callV hX cv_X6_129 (c6_search hM1 ⟨ht, by omega⟩ hO) dX6_busy_34 h_M rfl rfl (by exact ⟨Nat.le_of_ble_eq_true rfl, Nat.le_of_ble_eq_true rfl⟩) (by exact ⟨Nat.le_of_ble_eq_true rfl, Nat.le_of_ble_eq_true rfl⟩) (by exact Nat.le_of_ble_eq_true rfl) (fun v34 h34 hp34 => ?_) rfl
      obtain ⟨rfl, sp2, tu2, hM2, hF2, hres⟩ := hp34
      refine j_lstore hX dX6_busy_37 (by decide) ?_
      refine j_lload_n hX dX6_busy_39 rfl ?_
      refine j_lload hX dX6_busy_40 rfl ?_
      refine j_lconst0 hX dX6_busy_42 ?_
      refine j_lcmp_lt hX 51 dX6_busy_43 dX6_busy_44 (by decide) (by omega) (by omega) (fun c43 => ?_) (fun c43 => ?_)
      · refine j_lconst0 hX dX6_busy_51 ?_
        refine j_ladd hX dX6_busy_52 ?_
        refine j_lstore_n hX dX6_busy_53 (by decide) ?_
        refine j_lload hX dX6_busy_54 rfl ?_
        refine j_lload hX dX6_busy_56 rfl ?_
        refine j_lcmp_le hX 67 dX6_busy_58 dX6_busy_59 (by decide) (by omega) (by omega) (fun c58 => ?_) (fun c58 => ?_)
        · refine j_lload hX dX6_busy_67 rfl ?_
          refine j_lstore hX dX6_busy_69 (by decide) ?_
          refine j_iinc hX dX6_busy_71 rfl (by decide) ?_
          refine j_goto hX 22 dX6_busy_74 (by decide) ?_
          exact j_at (L' := [(0, .ref b), (1, .int (iZ side)), (2, .long (lZ _)), (4, .long (lZ _)), (6, .int (iZ (((o1 + 1 + 1) : Nat) : Int)))]) (hjo (ih (o1 + 1 + 1) _ _ _ _ _ hsd (by omega) (by omega) hM2 (hFm.tr hF2) (by show _ = cntF σ n m o1 + _; split <;> omega) (by show _ = (if mxF σ n m o1 < _ then _ else _); split <;> omega))) ⟨rfl, rfl, rfl, rfl, rfl, trivial⟩
        · refine j_lload hX dX6_busy_62 rfl ?_
          refine j_goto hX 69 dX6_busy_64 (by decide) ?_
          refine j_lstore hX dX6_busy_69 (by decide) ?_
          refine j_iinc hX dX6_busy_71 rfl (by decide) ?_
          refine j_goto hX 22 dX6_busy_74 (by decide) ?_
          exact j_at (L' := [(0, .ref b), (1, .int (iZ side)), (2, .long (lZ _)), (4, .long (lZ _)), (6, .int (iZ (((o1 + 1 + 1) : Nat) : Int)))]) (hjo (ih (o1 + 1 + 1) _ _ _ _ _ hsd (by omega) (by omega) hM2 (hFm.tr hF2) (by show _ = cntF σ n m o1 + _; split <;> omega) (by show _ = (if mxF σ n m o1 < _ then _ else _); split <;> omega))) ⟨rfl, rfl, rfl, rfl, rfl, trivial⟩
      · refine j_lconst1 hX dX6_busy_47 ?_
        refine j_goto hX 52 dX6_busy_48 (by decide) ?_
        refine j_ladd hX dX6_busy_52 ?_
        refine j_lstore_n hX dX6_busy_53 (by decide) ?_
        refine j_lload hX dX6_busy_54 rfl ?_
        refine j_lload hX dX6_busy_56 rfl ?_
        refine j_lcmp_le hX 67 dX6_busy_58 dX6_busy_59 (by decide) (by omega) (by omega) (fun c58 => ?_) (fun c58 => ?_)
        · refine j_lload hX dX6_busy_67 rfl ?_
          refine j_lstore hX dX6_busy_69 (by decide) ?_
          refine j_iinc hX dX6_busy_71 rfl (by decide) ?_
          refine j_goto hX 22 dX6_busy_74 (by decide) ?_
          exact j_at (L' := [(0, .ref b), (1, .int (iZ side)), (2, .long (lZ _)), (4, .long (lZ _)), (6, .int (iZ (((o1 + 1 + 1) : Nat) : Int)))]) (hjo (ih (o1 + 1 + 1) _ _ _ _ _ hsd (by omega) (by omega) hM2 (hFm.tr hF2) (by show _ = cntF σ n m o1 + _; split <;> omega) (by show _ = (if mxF σ n m o1 < _ then _ else _); split <;> omega))) ⟨rfl, rfl, rfl, rfl, rfl, trivial⟩
        · refine j_lload hX dX6_busy_62 rfl ?_
          refine j_goto hX 69 dX6_busy_64 (by decide) ?_
          refine j_lstore hX dX6_busy_69 (by decide) ?_
          refine j_iinc hX dX6_busy_71 rfl (by decide) ?_
          refine j_goto hX 22 dX6_busy_74 (by decide) ?_
          exact j_at (L' := [(0, .ref b), (1, .int (iZ side)), (2, .long (lZ _)), (4, .long (lZ _)), (6, .int (iZ (((o1 + 1 + 1) : Nat) : Int)))]) (hjo (ih (o1 + 1 + 1) _ _ _ _ _ hsd (by omega) (by omega) hM2 (hFm.tr hF2) (by show _ = cntF σ n m o1 + _; split <;> omega) (by show _ = (if mxF σ n m o1 < _ then _ else _); split <;> omega))) ⟨rfl, rfl, rfl, rfl, rfl, trivial⟩
  refine hji ?_
  refine j_aload_n hX dX6_busy_0 rfl ?_
  refine j_iconst hX dX6_busy_1 ?_
  refine j_putE hX fp_X6_63_8 dX6_busy_2 h_M rfl rfl (Nat.le_of_ble_eq_true rfl) (fs2 := (MF A9 n m sp tu 0)) rfl ?_
  have hM0 := hM.fld (n' := n) (m' := m) (sp' := sp) (tu' := tu) (th' := 0)
  have h_M := hM0.1
  have hF0 : Fm h _ b A9 := (Fm.rf h b A9).b (.inr (8, MF A9 n m sp tu 0))
  refine j_iload_n hX dX6_busy_5 rfl ?_
  refine j_if_ne hX 14 dX6_busy_6 (by decide) (by omega) (fun c6 => ?_) (fun c6 => ?_)
  · refine j_lconst0 hX dX6_busy_14 ?_
    refine j_lstore_n hX dX6_busy_15 (by decide) ?_
    refine j_lconst0 hX dX6_busy_16 ?_
    refine j_lstore hX dX6_busy_17 (by decide) ?_
    refine j_iconst hX dX6_busy_19 ?_
    refine j_istore hX dX6_busy_20 (by decide) ?_
    exact j_at (L' := [(0, .ref b), (1, .int (iZ side)), (2, .long (lZ _)), (4, .long (lZ _)), (6, .int (iZ ((1 : Nat) : Int)))]) (hjo (lp n 1 _ _ sp tu _ (by omega) (by omega) (by omega) hM0 hF0 rfl rfl)) ⟨rfl, rfl, rfl, rfl, rfl, trivial⟩
  · refine j_aload_n hX dX6_busy_9 rfl ?_
    refine j_callV hX cv_X6_144 (c6_load hM0 hO) dX6_busy_10 h_M rfl rfl (by exact ⟨Nat.le_of_ble_eq_true rfl, Nat.le_of_ble_eq_true rfl⟩) (by exact ⟨Nat.le_of_ble_eq_true rfl, Nat.le_of_ble_eq_true rfl⟩) (by exact Nat.le_of_ble_eq_true rfl) (fun v10 h10 hp10 => ?_) rfl
    obtain ⟨rfl, rfl⟩ := hp10
    exact j_lret hX hR dX6_busy_13 ⟨by rw [busyF, if_pos (by omega)], sp, tu, hM0, hF0⟩
theorem c6_isTaskF {l : Launch} {G : Gt} {B : Nat} {h : hF} {b : Nat} {A9 : Nat → Nat} {σ : St} {n m : Nat} {sp tu th : Int} (hM : Mo G h b A9 σ n m sp tu th) (hn16 : n ≤ 16) {z : Int} (hz : -2147483648 ≤ z ∧ z < 2147483648) : Ct l G B yX6_isTask cX6_isTask 2 (some .boolean) 0 0 0 [.ref b, .int (iZ z)] h (fun v h' => (∃ y : Int, v = .int (iZ y) ∧ ((y = 1 ∧ 1 ≤ z ∧ z ≤ n) ∨ (y = 0 ∧ ¬ (1 ≤ z ∧ z ≤ n)))) ∧ h = h') := by
  refine Ct.mono (c6_isTask hM hn16 hz) (fun v h' hv => ⟨⟨_, hv.1, ?_⟩, hv.2⟩)
  split
  · exact Or.inl ⟨rfl, by omega, by omega⟩
  · exact Or.inr ⟨rfl, by omega⟩
theorem c6_withinF {l : Launch} {G : Gt} {B : Nat} {h : hF} {x lo hi : Int} (hx : -9223372036854775808 ≤ x ∧ x < 9223372036854775808) (hlo : -9223372036854775808 ≤ lo ∧ lo < 9223372036854775808) (hhi : -9223372036854775808 ≤ hi ∧ hi < 9223372036854775808) : Ct l G B yX6_within cX6_within 6 (some .boolean) 0 0 0 [.long (lZ x), .long (lZ lo), .long (lZ hi)] h (fun v h' => (∃ y : Int, v = .int (iZ y) ∧ ((y = 1 ∧ lo ≤ x ∧ x ≤ hi) ∨ (y = 0 ∧ ¬ (lo ≤ x ∧ x ≤ hi)))) ∧ h = h') := by
  refine Ct.mono (c6_within hx hlo hhi) (fun v h' hv => ⟨⟨_, hv.1, ?_⟩, hv.2⟩)
  split
  · exact Or.inl ⟨rfl, by omega, by omega⟩
  · exact Or.inr ⟨rfl, by omega⟩
noncomputable def ansV (σ : St) (n m : Nat) (z : Int) : Int := if 1 ≤ z ∧ z ≤ n then (ansF σ n m z.toNat).1 else -2
set_option maxRecDepth 100000 in
set_option maxHeartbeats 4000000 in
theorem c6_answer {l : Launch} {G : Gt} {B : Nat} {h : hF} {b : Nat} {A9 : Nat → Nat} {σ : St} {n m : Nat} {sp tu th : Int} (hM : Mo G h b A9 σ n m sp tu th) (hO : OK n m σ) {z : Int} (hz : -2147483648 ≤ z ∧ z < 2147483648) : Ct l G B yX6_answer cX6_answer 2 (some .long) 4 0 0 [.ref b, .int (iZ z)] h (fun v h' => v = .long (lZ (ansV σ n m z)) ∧ ∃ sp2 tu2 : Int, Mo G h' b A9 σ n m sp2 tu2 0 ∧ Fm h h' b A9) := by
  refine Ct.of (by decide) (Nat.le_of_ble_eq_true rfl) ?_
  intro p e s m9 below meth c A hX hR hin
  have hn16 := hO.1
  have hm8 := hO.2.1
  have h_M := hM.1
  refine j_aload_n hX dX6_answer_0 rfl ?_
  refine j_iconst hX dX6_answer_1 ?_
  refine j_putE hX fp_X6_63_8 dX6_answer_2 h_M rfl rfl (Nat.le_of_ble_eq_true rfl) (fs2 := (MF A9 n m sp tu 0)) rfl ?_
  have hM0 := hM.fld (n' := n) (m' := m) (sp' := sp) (tu' := tu) (th' := 0)
  have h_M := hM0.1
  have hF0 : Fm h _ b A9 := (Fm.rf h b A9).b (.inr (8, MF A9 n m sp tu 0))
  refine j_aload_n hX dX6_answer_5 rfl ?_
  refine j_iload_n hX dX6_answer_6 rfl ?_
  refine j_callV hX cv_X6_82 (c6_isTaskF hM0 (by omega) (by omega)) dX6_answer_7 h_M rfl rfl (by exact ⟨Nat.le_of_ble_eq_true rfl, Nat.le_of_ble_eq_true rfl⟩) (by exact ⟨Nat.le_of_ble_eq_true rfl, Nat.le_of_ble_eq_true rfl⟩) (by exact Nat.le_of_ble_eq_true rfl) (fun v7 h7 hp7 => ?_) rfl
  obtain ⟨⟨y7, rfl, hy7⟩, rfl⟩ := hp7
  refine j_if_eq hX 21 dX6_answer_10 (by decide) (by omega) (fun c10 => ?_) (fun c10 => ?_)
  · refine j_ldc2 hX k_X6_132 (z := -2) (by decide) dX6_answer_21 ?_
    exact j_lret hX hR dX6_answer_24 ⟨by rw [ansV, if_neg (by omega)], sp, tu, hM0, hF0⟩
  · obtain ⟨t, rfl⟩ : ∃ t : Nat, z = (t : Int) := ⟨z.toNat, by omega⟩
    refine j_aload_n hX dX6_answer_13 rfl ?_
    refine j_iload_n hX dX6_answer_14 rfl ?_
    refine j_callV hX cv_X6_129 (c6_search hM0 ⟨by omega, by omega⟩ hO) dX6_answer_15 h_M rfl rfl (by exact ⟨Nat.le_of_ble_eq_true rfl, Nat.le_of_ble_eq_true rfl⟩) (by exact ⟨Nat.le_of_ble_eq_true rfl, Nat.le_of_ble_eq_true rfl⟩) (by exact Nat.le_of_ble_eq_true rfl) (fun v15 h15 hp15 => ?_) rfl
    obtain ⟨rfl, sp2, tu2, hM2, hF2, hres⟩ := hp15
    refine j_goto hX 24 dX6_answer_18 (by decide) ?_
    exact j_lret hX hR dX6_answer_24 ⟨by rw [ansV, if_pos (by omega)]; rfl, sp2, tu2, hM2, hF0.tr hF2⟩
def ow (σ : St) (t : Nat) (x : Int) : St := sup σ 0 (zup (σ 0) t x)
theorem zup_zup (f : Nat → Int) (t : Nat) (x y : Int) : zup (zup f t x) t y = zup f t y := by
  funext j; unfold zup; split <;> rfl
theorem zup_id {f : Nat → Int} {t : Nat} {x : Int} (h : f t = x) : zup f t x = f := by
  funext j; unfold zup; split
  · rename_i e; rw [e, h]
  · rfl
theorem sup_id (σ : St) (k : Nat) : sup σ k (σ k) = σ := by
  funext j; unfold sup; split
  · rename_i e; rw [e]
  · rfl
theorem sup_sup (σ : St) (k : Nat) (f g : Nat → Int) : sup (sup σ k f) k g = sup σ k g := by
  funext j; unfold sup; split <;> rfl
theorem ow_at (σ : St) (t : Nat) (x : Int) : ow σ t x 0 t = x := by unfold ow; rw [sup_eq, zup_eq]
theorem ow_self (σ : St) (t : Nat) : ow σ t (σ 0 t) = σ := by unfold ow; rw [zup_id rfl, sup_id]
theorem ow_ow (σ : St) (t : Nat) (x y : Int) : sup (ow σ t x) 0 (zup (ow σ t x 0) t y) = ow σ t y := by unfold ow; rw [sup_sup, sup_eq, zup_zup]
theorem OK.own {n m : Nat} {σ : St} (hO : OK n m σ) {t : Nat} {x : Int} (hx : 1 ≤ x ∧ x ≤ 1000) : OK n m (ow σ t x) := by
  refine ⟨hO.1, hO.2.1, fun o h1 h2 => ?_, fun i h1 h2 => hO.2.2.2 i h1 h2⟩
  have h := hO.2.2.1 o h1 h2
  refine ⟨?_, h.2⟩
  unfold ow
  rw [sup_eq]
  unfold zup
  split
  · exact hx
  · exact h.1
noncomputable def lng (σ : St) (n m t : Nat) : Nat → Int → Int → Int
  | 0, low, _ => low
  | k + 1, low, high => if 1 < high - low then @ite _ (allA (ow σ t ((low + high) / 2)) n m) (Classical.propDecidable _) (lng σ n m t k ((low + high) / 2) high) (lng σ n m t k low ((low + high) / 2)) else low
noncomputable def lngF (σ : St) (n m : Nat) (z : Int) : Int := if 1 ≤ z ∧ z ≤ n then @ite _ (allA σ n m) (Classical.propDecidable _) (lng σ n m z.toNat 1001 (σ 0 z.toNat) 1001 - σ 0 z.toNat) (-1) else -2
set_option maxRecDepth 100000 in
set_option maxHeartbeats 4000000 in
theorem c6_longer {l : Launch} {G : Gt} {B : Nat} {h : hF} {b : Nat} {A9 : Nat → Nat} {σ : St} {n m : Nat} {sp tu th : Int} (hM : Mo G h b A9 σ n m sp tu th) (hO : OK n m σ) {z : Int} (hz : -2147483648 ≤ z ∧ z < 2147483648) : Ct l G B yX6_longer cX6_longer 8 (some .long) 5 0 0 [.ref b, .int (iZ z)] h (fun v h' => v = .long (lZ (lngF σ n m z)) ∧ ∃ sp2 tu2 : Int, Mo G h' b A9 σ n m sp2 tu2 0 ∧ Fm h h' b A9) := by
  refine Ct.of (by decide) (Nat.le_of_ble_eq_true rfl) ?_
  intro p e s m9 below meth c A hX hR hin
  have hn16 := hO.1
  have hm8 := hO.2.1
  have h_M := hM.1
  refine J_abs (J0 := J p l e _ s m9 _ below meth c _ _ G A) ?_
  intro JX hji hjo
  have lp : ∀ (t : Nat), 1 ≤ t ∧ t ≤ n → z = (t : Int) → allA σ n m → ∀ (k : Nat) (low high x sp1 tu1 : Int) (h1 : hF), high - low ≤ (k : Int) + 1 → 1 ≤ low → low < high → high ≤ 1001 → (1 ≤ x ∧ x ≤ 1000) → Mo G h1 b A9 (ow σ t x) n m sp1 tu1 0 → Fm h h1 b A9 → lng σ n m t k low high = lng σ n m t 1001 (σ 0 t) 1001 → JX 0 0 43 [(0, .ref b), (1, .int (iZ (t : Int))), (2, .long (lZ (σ 0 t))), (4, .long (lZ low)), (6, .long (lZ high))] [] h1 := by
    intro t ht hzt hal
    obtain ⟨o0, o1, o2, o3, o4, o5, o6, o7, o8, o9⟩ := hO.2.2.1 t ht.1 ht.2
    intro k
    induction k with
    | zero =>
      intro low high x sp1 tu1 h1 hk hlo hlh hhi hx hM1 hFm hs
      have h_M := hM1.1
      have h_a0 := hM1.a0
      refine hji ?_
      refine j_lload hX dX6_longer_43 rfl ?_
      refine j_lload hX dX6_longer_45 rfl ?_
      refine j_lsub hX dX6_longer_47 ?_
      refine j_lconst1 hX dX6_longer_48 ?_
      refine j_lcmp_le hX 97 dX6_longer_49 dX6_longer_50 (by decide) (by omega) (by omega) (fun c49 => ?_) (fun c49 => absurd c49 (by omega))
      refine j_aload_n hX dX6_longer_97 rfl ?_
      refine j_get hX fl_X6_7_8 dX6_longer_98 h_M (by rfl) ?_
      refine j_iload_n hX dX6_longer_101 rfl ?_
      refine j_lload_n hX dX6_longer_102 rfl ?_
      refine j_lastN hX _ rfl dX6_longer_103 h_a0 (by omega) (by decide) ?_
      have hM2 : Mo G (hup h1 (A9 0) (gJ G 17 (zup (ow σ t x 0) t (σ 0 t)))) b A9 σ n m sp1 tu1 0 := by have z9 := hM1.arr (k := 0) rfl (zup (ow σ t x 0) t (σ 0 t)); rw [ow_ow, ow_self] at z9; exact z9
      have hF2 := hFm.a (k := 0) rfl (gJ G 17 (zup (ow σ t x 0) t (σ 0 t)))
      refine j_lload hX dX6_longer_104 rfl ?_
      refine j_lload_n hX dX6_longer_106 rfl ?_
      refine j_lsub hX dX6_longer_107 ?_
      exact j_lret hX hR dX6_longer_108 ⟨by rw [lngF, if_pos (by omega), if_pos hal, hzt]; show _ = Value.long (lZ (lng σ n m t 1001 (σ 0 t) 1001 - σ 0 t)); rw [← hs]; rfl, sp1, tu1, hM2, hF2⟩
    | succ k ih =>
      intro low high x sp1 tu1 h1 hk hlo hlh hhi hx hM1 hFm hs
      have h_M := hM1.1
      have h_a0 := hM1.a0
      refine hji ?_
      refine j_lload hX dX6_longer_43 rfl ?_
      refine j_lload hX dX6_longer_45 rfl ?_
      refine j_lsub hX dX6_longer_47 ?_
      refine j_lconst1 hX dX6_longer_48 ?_
      refine j_lcmp_le hX 97 dX6_longer_49 dX6_longer_50 (by decide) (by omega) (by omega) (fun c49 => ?_) (fun c49 => ?_)
      · refine j_aload_n hX dX6_longer_97 rfl ?_
        refine j_get hX fl_X6_7_8 dX6_longer_98 h_M (by rfl) ?_
        refine j_iload_n hX dX6_longer_101 rfl ?_
        refine j_lload_n hX dX6_longer_102 rfl ?_
        refine j_lastN hX _ rfl dX6_longer_103 h_a0 (by omega) (by decide) ?_
        have hM2 : Mo G (hup h1 (A9 0) (gJ G 17 (zup (ow σ t x 0) t (σ 0 t)))) b A9 σ n m sp1 tu1 0 := by have z9 := hM1.arr (k := 0) rfl (zup (ow σ t x 0) t (σ 0 t)); rw [ow_ow, ow_self] at z9; exact z9
        have hF2 := hFm.a (k := 0) rfl (gJ G 17 (zup (ow σ t x 0) t (σ 0 t)))
        refine j_lload hX dX6_longer_104 rfl ?_
        refine j_lload_n hX dX6_longer_106 rfl ?_
        refine j_lsub hX dX6_longer_107 ?_
        exact j_lret hX hR dX6_longer_108 ⟨by rw [lngF, if_pos (by omega), if_pos hal, hzt]; show _ = Value.long (lZ (lng σ n m t 1001 (σ 0 t) 1001 - σ 0 t)); rw [← hs]; rw [lng, if_neg (by omega)], sp1, tu1, hM2, hF2⟩
      · refine j_aload_n hX dX6_longer_53 rfl ?_
        refine j_get hX fl_X6_7_8 dX6_longer_54 h_M (by rfl) ?_
        refine j_iload_n hX dX6_longer_57 rfl ?_
        refine j_lload hX dX6_longer_58 rfl ?_
        refine j_lload hX dX6_longer_60 rfl ?_
        refine j_ladd hX dX6_longer_62 ?_
        refine j_ldc2 hX k_X6_140 (z := 2) (by decide) dX6_longer_63 ?_
        refine j_ldiv hX dX6_longer_66 (by omega) (by omega) ?_
        refine j_lastN hX _ rfl dX6_longer_67 h_a0 (by omega) (by decide) ?_
        have hM2 : Mo G (hup h1 (A9 0) (gJ G 17 (zup (ow σ t x 0) t ((low + high) / 2)))) b A9 (ow σ t ((low + high) / 2)) n m sp1 tu1 0 := by have z9 := hM1.arr (k := 0) rfl (zup (ow σ t x 0) t ((low + high) / 2)); rw [ow_ow] at z9; exact z9
        have hF2 := hFm.a (k := 0) rfl (gJ G 17 (zup (ow σ t x 0) t ((low + high) / 2)))
        have h_M := hM2.1
        have hxm : 1 ≤ ((low + high) / 2) ∧ ((low + high) / 2) ≤ 1000 := by omega
        refine j_aload_n hX dX6_longer_68 rfl ?_
        refine j_callV hX cv_X6_134 (c6_allAnswer hM2 (hO.own hxm)) dX6_longer_69 h_M rfl rfl (by exact ⟨Nat.le_of_ble_eq_true rfl, Nat.le_of_ble_eq_true rfl⟩) (by exact ⟨Nat.le_of_ble_eq_true rfl, Nat.le_of_ble_eq_true rfl⟩) (by exact Nat.le_of_ble_eq_true rfl) (fun v69 h69 hp69 => ?_) rfl
        obtain ⟨⟨y69, rfl, hy69⟩, sp3, tu3, hM3, hF3⟩ := hp69
        have h_M := hM3.1
        have h_a0 := hM3.a0
        have hy : y69 = 0 ∨ y69 = 1 := by rcases hy69 with ⟨z9, _⟩ | ⟨z9, _⟩ <;> omega
        refine j_if_eq hX 86 dX6_longer_72 (by decide) (by omega) (fun c72 => ?_) (fun c72 => ?_)
        · refine j_aload_n hX dX6_longer_86 rfl ?_
          refine j_get hX fl_X6_7_8 dX6_longer_87 h_M (by rfl) ?_
          refine j_iload_n hX dX6_longer_90 rfl ?_
          refine j_laldN hX _ rfl dX6_longer_91 h_a0 (by omega) (by decide) ?_
          refine j_lstore hX dX6_longer_92 (by decide) ?_
          refine j_goto hX 43 dX6_longer_94 (by decide) ?_
          exact j_at (L' := [(0, .ref b), (1, .int (iZ (t : Int))), (2, .long (lZ (σ 0 t))), (4, .long (lZ low)), (6, .long (lZ ((low + high) / 2)))]) (hjo (ih low ((low + high) / 2) _ _ _ _ (by omega) (by omega) (by omega) (by omega) hxm hM3 (hF2.tr hF3) (by rw [← hs]; conv => { rhs; unfold lng }; rw [if_pos (by omega), if_neg (by rcases hy69 with ⟨z9, _⟩ | ⟨_, z9⟩; omega; exact z9)]))) ⟨rfl, rfl, rfl, by (show some (Value.long (lZ _)) = _); first | rfl | rw [ow_at], by first | rfl | (show some (Value.long (lZ _)) = _; rw [ow_at]), trivial⟩
        · refine j_aload_n hX dX6_longer_75 rfl ?_
          refine j_get hX fl_X6_7_8 dX6_longer_76 h_M (by rfl) ?_
          refine j_iload_n hX dX6_longer_79 rfl ?_
          refine j_laldN hX _ rfl dX6_longer_80 h_a0 (by omega) (by decide) ?_
          refine j_lstore hX dX6_longer_81 (by decide) ?_
          refine j_goto hX 43 dX6_longer_83 (by decide) ?_
          exact j_at (L' := [(0, .ref b), (1, .int (iZ (t : Int))), (2, .long (lZ (σ 0 t))), (4, .long (lZ ((low + high) / 2))), (6, .long (lZ high))]) (hjo (ih ((low + high) / 2) high _ _ _ _ (by omega) (by omega) (by omega) (by omega) hxm hM3 (hF2.tr hF3) (by rw [← hs]; conv => { rhs; unfold lng }; rw [if_pos (by omega), if_pos (by rcases hy69 with ⟨_, z9⟩ | ⟨z9, _⟩; exact z9; omega)]))) ⟨rfl, rfl, rfl, by (show some (Value.long (lZ _)) = _); first | rfl | rw [ow_at], by first | rfl | (show some (Value.long (lZ _)) = _; rw [ow_at]), trivial⟩
  refine hji ?_
  refine j_aload_n hX dX6_longer_0 rfl ?_
  refine j_iconst hX dX6_longer_1 ?_
  refine j_putE hX fp_X6_63_8 dX6_longer_2 h_M rfl rfl (Nat.le_of_ble_eq_true rfl) (fs2 := (MF A9 n m sp tu 0)) rfl ?_
  have hM0 := hM.fld (n' := n) (m' := m) (sp' := sp) (tu' := tu) (th' := 0)
  have h_M := hM0.1
  have hF0 : Fm h _ b A9 := (Fm.rf h b A9).b (.inr (8, MF A9 n m sp tu 0))
  refine j_aload_n hX dX6_longer_5 rfl ?_
  refine j_iload_n hX dX6_longer_6 rfl ?_
  refine j_callV hX cv_X6_82 (c6_isTaskF hM0 (by omega) (by omega)) dX6_longer_7 h_M rfl rfl (by exact ⟨Nat.le_of_ble_eq_true rfl, Nat.le_of_ble_eq_true rfl⟩) (by exact ⟨Nat.le_of_ble_eq_true rfl, Nat.le_of_ble_eq_true rfl⟩) (by exact Nat.le_of_ble_eq_true rfl) (fun v7 h7 hp7 => ?_) rfl
  obtain ⟨⟨y7, rfl, hy7⟩, rfl⟩ := hp7
  refine j_if_ne hX 17 dX6_longer_10 (by decide) (by omega) (fun c10 => ?_) (fun c10 => ?_)
  · have ht9 : 1 ≤ z ∧ z ≤ n := by omega
    obtain ⟨t, rfl⟩ : ∃ t : Nat, z = (t : Int) := ⟨z.toNat, by omega⟩
    obtain ⟨o0, -⟩ := hO.2.2.1 t (by omega) (by omega)
    refine j_aload_n hX dX6_longer_17 rfl ?_
    refine j_callV hX cv_X6_134 (c6_allAnswer hM0 hO) dX6_longer_18 h_M rfl rfl (by exact ⟨Nat.le_of_ble_eq_true rfl, Nat.le_of_ble_eq_true rfl⟩) (by exact ⟨Nat.le_of_ble_eq_true rfl, Nat.le_of_ble_eq_true rfl⟩) (by exact Nat.le_of_ble_eq_true rfl) (fun v18 h18 hp18 => ?_) rfl
    obtain ⟨⟨y18, rfl, hy18⟩, sp1, tu1, hM1, hF1⟩ := hp18
    have hy : y18 = 0 ∨ y18 = 1 := by rcases hy18 with ⟨z9, _⟩ | ⟨z9, _⟩ <;> omega
    have h_M := hM1.1
    have h_a0 := hM1.a0
    refine j_if_ne hX 28 dX6_longer_21 (by decide) (by omega) (fun c21 => ?_) (fun c21 => ?_)
    · refine j_aload_n hX dX6_longer_28 rfl ?_
      refine j_get hX fl_X6_7_8 dX6_longer_29 h_M (by rfl) ?_
      refine j_iload_n hX dX6_longer_32 rfl ?_
      refine j_laldN hX _ rfl dX6_longer_33 h_a0 (by omega) (by decide) ?_
      refine j_lstore_n hX dX6_longer_34 (by decide) ?_
      refine j_lload_n hX dX6_longer_35 rfl ?_
      refine j_lstore hX dX6_longer_36 (by decide) ?_
      refine j_ldc2 hX k_X6_138 (z := 1001) (by decide) dX6_longer_38 ?_
      refine j_lstore hX dX6_longer_41 (by decide) ?_
      exact j_at (L' := [(0, .ref b), (1, .int (iZ (t : Int))), (2, .long (lZ (σ 0 t))), (4, .long (lZ _)), (6, .long (lZ _))]) (hjo (lp t ⟨by omega, by omega⟩ rfl (by rcases hy18 with ⟨_, z9⟩ | ⟨z9, _⟩; exact z9; omega) 1001 (σ 0 t) 1001 (σ 0 t) _ _ _ (by omega) (by omega) (by omega) (by omega) o0 (by rw [ow_self]; exact hM1) (hF0.tr hF1) rfl)) ⟨rfl, rfl, rfl, rfl, rfl, trivial⟩
    · refine j_ldc2 hX k_X6_80 (z := -1) (by decide) dX6_longer_24 ?_
      exact j_lret hX hR dX6_longer_27 ⟨by rw [lngF, if_pos (by omega), if_neg (by rcases hy18 with ⟨z9, _⟩ | ⟨_, z9⟩; omega; exact z9)], sp1, tu1, hM1, hF0.tr hF1⟩
  · refine j_ldc2 hX k_X6_132 (z := -2) (by decide) dX6_longer_13 ?_
    exact j_lret hX hR dX6_longer_16 ⟨by rw [lngF, if_neg (by omega)], sp, tu, hM0, hF0⟩
end
