/-! ROWS FOR LISTS: the cells as a finite list; arrays of references -/
theorem q_542 : Cond.native arraycopyName ∈ lw_g := lw_g_at 542 (by decide +kernel) (by decide +kernel)
theorem q_532 : Cond.native ⟨"java/lang/Object", "getClass", "()Ljava/lang/Class;"⟩ ∈ lw_g := lw_g_at 532 (by decide +kernel) (by decide +kernel)
theorem q_540a : Cond.methodLink RJ7 150 arraycopyName ∈ lw_g := lw_g_at 540 (by decide +kernel) (by decide +kernel)
theorem q_541a : Cond.static arraycopyName ∈ lw_g := lw_g_at 541 (by decide +kernel) (by decide +kernel)
theorem q_sys : Cond.initialized "java/lang/System" ∈ lw_g := by
  have h : tables_1.contains (Cond.initialized "java/lang/System") = true := by decide +kernel
  exact lw_g_in (List.mem_append_right _ (List.contains_iff_mem.mp h)) (by decide +kernel)
theorem HP.list {G : Gt} {h : hF} {H : Heap} {A : Nat → Prop} (hP : HP G h H) (hA : ∀ (a : Nat) (x : va_E), h a = some x → A a) : ∃ ws : List (Nat × va_E), va_P G.1 vwCl ws H ∧ va_D A ws ∧ (∀ (a : Nat) (e : va_E), h a = some e → ∃ k : Nat, ws[k]? = some (a, e)) ∧ ∀ (k : Nat) (q : Nat × va_E), ws[k]? = some q → h q.1 = some q.2 := by
  have key : ∀ N : Nat, ∃ ws : List (Nat × va_E), (∀ (k : Nat) (q : Nat × va_E), ws[k]? = some q → h q.1 = some q.2 ∧ q.1 < N) ∧ (∀ (a : Nat) (e : va_E), a < N → h a = some e → ∃ k : Nat, ws[k]? = some (a, e)) ∧ ∀ (i j : Nat) (p q : Nat × va_E), ws[i]? = some p → ws[j]? = some q → p.1 = q.1 → i = j := by
    intro N
    induction N with
    | zero => exact ⟨[], fun k q hq => by simp at hq, fun a e ha => by omega, fun i j p q hp => by simp at hp⟩
    | succ N ih =>
      obtain ⟨ws, w1, w2, w3⟩ := ih
      cases hN : h N with
      | none =>
        refine ⟨ws, fun k q hq => ⟨(w1 k q hq).1, by have := (w1 k q hq).2; omega⟩, fun a e ha he => ?_, w3⟩
        by_cases e2 : a = N
        · subst e2; rw [hN] at he; cases he
        · exact w2 a e (by omega) he
      | some e0 =>
        have gt : ∀ (k : Nat) (q : Nat × va_E), (ws ++ [(N, e0)])[k]? = some q → (k < ws.length ∧ ws[k]? = some q) ∨ (k = ws.length ∧ q = (N, e0)) := by
          intro k q hq
          by_cases hk : k < ws.length
          · rw [List.getElem?_append_left hk] at hq; exact Or.inl ⟨hk, hq⟩
          · rw [List.getElem?_append_right (by omega)] at hq
            have hz : k - ws.length < 1 := (List.getElem?_eq_some_iff.mp hq).1
            rw [show k - ws.length = 0 by omega] at hq
            cases hq
            exact Or.inr ⟨by omega, rfl⟩
        refine ⟨ws ++ [(N, e0)], fun k q hq => ?_, fun a e ha he => ?_, fun i j p q hp hq hpq => ?_⟩
        · rcases gt k q hq with ⟨h1, h2⟩ | ⟨h1, rfl⟩
          · exact ⟨(w1 k q h2).1, by have := (w1 k q h2).2; omega⟩
          · exact ⟨hN, by show N < N + 1; omega⟩
        · by_cases e2 : a = N
          · subst e2; rw [hN] at he; cases he
            exact ⟨ws.length, by rw [List.getElem?_append_right (Nat.le_refl _), Nat.sub_self]; rfl⟩
          · obtain ⟨k, hk⟩ := w2 a e (by omega) he
            exact ⟨k, by rw [List.getElem?_append_left (List.getElem?_eq_some_iff.mp hk).1]; exact hk⟩
        · rcases gt i p hp with ⟨h1, h2⟩ | ⟨h1, rfl⟩
          · rcases gt j q hq with ⟨h3, h4⟩ | ⟨h3, rfl⟩
            · exact w3 i j p q h2 h4 hpq
            · have h5 := (w1 i p h2).2
              rw [hpq] at h5
              exact absurd h5 (by show ¬ N < N; omega)
          · rcases gt j q hq with ⟨h3, h4⟩ | ⟨h3, rfl⟩
            · have h5 := (w1 j q h4).2
              rw [← hpq] at h5
              exact absurd h5 (by show ¬ N < N; omega)
            · omega
  obtain ⟨ws, w1, w2, w3⟩ := key H.size
  exact ⟨ws, fun k q hq => hP _ _ (w1 k q hq).1, ⟨w3, fun k q hq => hA _ _ (w1 k q hq).1⟩, fun a e he => w2 a e (hP.lt he) he, fun k q hq => (w1 k q hq).1⟩
theorem HP.back {G : Gt} {h : hF} {H1 : Heap} {ws : List (Nat × va_E)} (w : ∀ (a : Nat) (e : va_E), h a = some e → ∃ k : Nat, ws[k]? = some (a, e)) {k a : Nat} {e0 e1 : va_E} (hk : ws[k]? = some (a, e0)) (hP : va_P G.1 vwCl (ws.set k (a, e1)) H1) : HP G (hup h a e1) H1 := by
  intro b e hb
  by_cases q : b = a
  · subst q
    rw [hup_eq] at hb
    cases hb
    exact hP k (b, e1) (by rw [List.getElem?_set_self (List.getElem?_eq_some_iff.mp hk).1])
  · rw [hup_ne q] at hb
    obtain ⟨j, hj⟩ := w b e hb
    have hjk : k ≠ j := by
      intro z; subst z
      rw [hk] at hj
      cases hj
      exact q rfl
    exact hP j (b, e) (by rw [List.getElem?_set_ne hjk]; exact hj)
section JL
variable {p : Program} {l : Launch} {e : Env} {R : Room} {s : State} {m : MethodId} {args : Array Value} {below : List Frame} {meth : Method} {c : Code} {Q : State → Prop} {nL : Nat} {G : Gt} {A : Nat → Prop} {cells slots pc : Nat} {L : List (Nat × Value)} {st : List Value} {h : hF} {cc : ByteArray} {own : String} {B : Nat}
theorem j_getDef (hX : CX p s m args c cc nL RJx4a65c G B A) (hdg : decode cc pc = .ok (.getstatic 39, 3)) (k : J p l e R s m args below meth c Q nL G A cells slots (pc + 3) L (.ref G.2.2 :: st) h) : J p l e R s m args below meth c Q nL G A cells slots pc L st h := by
  intro ls H locs hl hP hA hS
  have hZ : va_Z "java/util/ArrayList" "DEFAULTCAPACITY_EMPTY_ELEMENTDATA" "[Ljava/lang/Object;" (.ref G.2.2) A s s.heap := by
    obtain ⟨cf, kf, fi, f, a, cell, h1, h2, h3, h4, h5, h6, h7, h8⟩ := hX.2.2.2.2.2.2.1.1
    exact ⟨cf, kf, fi, f, a, cell, h1, h2, h3, h4, h5, h6, h7, fun z => h8 (hX.2.2.2.2.2.2.2.2 _ z)⟩
  exact va_gets hX.1 hX.2.1 hZ hS hX.2.2.2.1 (hX.2.2.2.2.1 _ q_48) (fun x hx => hx) hdg (k ls H locs hl hP hA hS)
theorem j_alenD (hX : CX p s m args c cc nL own G B A) (hdg : decode cc pc = .ok (.arraylength, 1)) (k : J p l e R s m args below meth c Q nL G A cells slots (pc + 1) L (.int (iZ 0) :: st) h) : J p l e R s m args below meth c Q nL G A cells slots pc L (.ref G.2.2 :: st) h := by
  intro ls H locs hl hP hA hS
  exact va_tlen hX.1 hX.2.1 (hX.2.2.2.2.2.2.1.2.2.narrow (fun q hq => hX.2.2.2.2.2.2.2.2 q hq)) hS (v := iZ 0) rfl hdg (k ls H locs hl hP hA hS)
theorem j_aastO (hX : CX p s m args c cc nL own G B A) {a n v ci : Nat} {f : Nat → Option Nat} {i : Int} {fs : List Value} {C : String} {T : u_T} {N : Nat} (j : Nat) (hj : i = (j : Int)) (hdg : decode cc pc = .ok (.aastore, 1)) (ha : h a = some (gQ G n f)) (hv : h v = some (.inr (ci, fs))) (hci : vwCl[ci]? = some (C, T, N)) (hC : C ∈ (["AnswerSums$Task", "AnswerSums$Part"] : List String)) (hi : j < n) (hn : n ≤ 1000) (kk : J p l e R s m args below meth c Q nL G A cells slots (pc + 1) L st (hup h a (gQ G n (va_up f j (some v))))) : J p l e R s m args below meth c Q nL G A cells slots pc L (.ref v :: .int (iZ i) :: .ref a :: st) h := by
  subst hj
  intro ls H locs hl hP hA hS
  obtain ⟨ws, w1, w2, w3, w4⟩ := hP.list hA
  obtain ⟨k0, hk0⟩ := w3 _ _ ha
  obtain ⟨k1, hk1⟩ := w3 _ _ hv
  refine va_astqO (D := G.1) (tys := gty G) hX.1 hX.2.1 hX.2.2.2.2.2.1.1 w1 w2 hS k0 3 k1 ci (E := "java/lang/Object") hk0 rfl (hX.2.2.2.2.2.1.2.2.2.1 C hC) hk1 hci (iZ_in ⟨by omega, by omega⟩ (by omega)) hdg (fun H1 locs1 p1 d1 s1 => ?_)
  have ei : (iZ (j : Int)).toNatClampNeg = j := by rw [iZ_cl ⟨by omega, by omega⟩]; rfl
  rw [ei] at p1
  refine kk ls H1 locs1 hl (HP.back w3 hk0 p1) (fun b x hb => ?_) s1
  by_cases q : b = a
  · rw [q]; exact hA _ _ ha
  · rw [hup_ne q] at hb; exact hA _ _ hb
theorem j_anewO (hX : CX p s m args c cc nL own G B A) {i : Nat} {N : Nat} (hlk : Cond.classLink own i "java/lang/Object" ∈ lw_g) (hdg : decode cc pc = .ok (.anewarray i, 3)) (hN : N ≤ 1000) (hf : cells + 1 ≤ R.cells ∧ slots + N ≤ R.slots) (kk : ∀ q : Nat, h q = none → J p l e R s m args below meth c Q nL G A (cells + 1) (slots + N) (pc + 3) L (.ref q :: st) (hup h q (gQ G N (fun _ => none)))) : J p l e R s m args below meth c Q nL G A cells slots pc L (.int (iZ (N : Int)) :: st) h := by
  intro ls H locs hl hP hA hS
  obtain ⟨ws, w1, w2, w3, w4⟩ := hP.list hA
  have hcl : (iZ (N : Int)).toNatClampNeg = N := by rw [iZ_cl (by omega)]; rfl
  have hn0 : ¬ iZ (N : Int) < 0 := fun z => by
    have h2 := (iZ_lt (a := (N : Int)) (b := 0) (by omega) (by omega)).mp z
    omega
  refine va_newq (D := G.1) (tys := gty G) hX.1 hX.2.1 hX.2.2.2.1 (hX.2.2.2.2.1 _ hlk) hX.2.2.2.2.2.1.2.2.2.2.1 hX.2.2.2.2.2.1.1 w1 w2 hS hX.2.2.2.2.2.2.2.1 hn0 hcl (by omega) hf.1 hf.2 hdg (fun q cA H1 hK1 p1 d1 s1 => ?_)
  have hcA : cA = G.2.1 3 := by
    have r1 := va_nmO (hK1.2 4 (cA, .object "java/lang/Object") rfl).2 rfl
    have r2 := va_nmO (hX.2.2.2.2.2.1.1.2 3 (G.2.1 3, .object "java/lang/Object") rfl).2 rfl
    exact Option.some.inj (r1.symm.trans r2)
  subst hcA
  have last : (ws ++ [(q, (gQ G N (fun _ => none) : va_E))])[ws.length]? = some (q, gQ G N (fun _ => none)) := by rw [List.getElem?_append_right (Nat.le_refl _), Nat.sub_self]; rfl
  have hq : h q = none := by
    cases hh : h q with
    | none => rfl
    | some x =>
      obtain ⟨k, hk⟩ := w3 _ _ hh
      have hkl := (List.getElem?_eq_some_iff.mp hk).1
      have := d1.1 k ws.length (q, x) _ (by rw [List.getElem?_append_left hkl]; exact hk) last rfl
      omega
  refine kk q hq ls H1 locs hl (fun b x hb => ?_) (fun b x hb => ?_) s1
  · by_cases z : b = q
    · subst z; rw [hup_eq] at hb; cases hb
      exact p1 _ _ last
    · rw [hup_ne z] at hb
      obtain ⟨k, hk⟩ := w3 _ _ hb
      exact p1 k (b, x) (by rw [List.getElem?_append_left (List.getElem?_eq_some_iff.mp hk).1]; exact hk)
  · by_cases z : b = q
    · rw [z]; exact d1.2 _ _ last
    · rw [hup_ne z] at hb; exact hA _ _ hb
theorem j_copyO (hX : CX p s m args c cc nL RJ7 G B A) {a a0 n0 n1 k : Nat} {f g : Nat → Option Nat} (hdg : decode cc pc = .ok (.invokestatic 150, 3)) (ha0 : h a0 = some (gQ G n0 f)) (ha : h a = some (gQ G n1 g)) (h0 : k ≤ n0) (h1 : k ≤ n1) (hk : k ≤ 1000) (hel : ∀ i : Nat, i < k → ∀ y : Nat, f i = some y → ∃ fs, h y = some (.inr (6, fs))) (hr : 1 ≤ R.frames ∧ (st.map fun v => v.category).sum + (nativeFrameWords "java/lang/System" "arraycopy" 5 + 11) ≤ R.locals) (kk : J p l e R s m args below meth c Q nL G A cells slots (pc + 3) L st (hup h a (gQ G n1 (va_cpy f g 0 0 k)))) : J p l e R s m args below meth c Q nL G A cells slots pc L (.int (iZ (k : Int)) :: .int (iZ 0) :: .ref a :: .int (iZ 0) :: .ref a0 :: st) h := by
  intro ls H locs hl hP hA hS
  obtain ⟨ws, w1, w2, w3, w4⟩ := hP.list hA
  obtain ⟨k0, hk0⟩ := w3 _ _ ha0
  obtain ⟨k1, hk1⟩ := w3 _ _ ha
  have ek : (iZ (k : Int)).toNatClampNeg = k := by rw [iZ_cl ⟨by omega, by omega⟩]; rfl
  have e0 : (iZ 0).toNatClampNeg = 0 := rfl
  have hn0 : ¬ iZ (k : Int) < 0 := fun z => by
    have h2 := (iZ_lt (a := (k : Int)) (b := 0) (by omega) (by omega)).mp z
    omega
  have hts := hX.2.2.2.2.1
  refine va_copyq (D := G.1) (tys := gty G) hX.1 hX.2.1 (by rw [hX.2.2.1]; exact hl.1.symm) hX.2.2.2.1 (hts _ q_540a) (hts _ q_542) (hts _ q_541a) (hts _ q_sys) hX.2.2.2.2.2.1.1 w1 w2 hS k0 k1 3 3 (C := "AnswerSums$Task") hk0 hk1 rfl rfl (by decide) (by decide) hn0 (by rw [ek, e0]; omega) (by rw [ek, e0]; omega) (fun i hi y hy => ?_) (fun comp c0 q1 q2 => ?_) hr.1 hr.2 hdg (fun H1 locs1 p1 d1 s1 => ?_)
  · rw [ek] at hi
    rw [e0, Nat.zero_add] at hy
    obtain ⟨fs, hfs⟩ := hel i hi y hy
    obtain ⟨r, g1, cell, g2, g3, g4, -⟩ := hP _ _ hfs
    have hr2 : r = (RX4, TX4, 13) := Option.some.inj (g1.symm.trans rfl)
    subst hr2
    refine ⟨cell, g2, by rw [g4]; rfl, ?_⟩
    rw [g3]
    exact (hX.2.2.2.2.2.1.1.1 6 _ rfl).2.1
  · obtain ⟨c1, t1, f1, f2, f3⟩ := Cond.castable_spec (va_Nw.use (A := args) rfl (hX.2.2.2.2.2.1.2.2.2.1 "AnswerSums$Task" List.mem_cons_self))
    cases q2.symm.trans f1
    cases q1.symm.trans f2
    exact f3
  · rw [ek, e0] at p1
    refine kk ls H1 locs1 hl (HP.back w3 hk1 p1) (fun b x hb => ?_) s1
    by_cases q : b = a
    · rw [q]; exact hA _ _ ha
    · rw [hup_ne q] at hb; exact hA _ _ hb
theorem j_ldcM (hX : CX p s m args c cc nL RJ7 G B A) {mi : Nat} (hM : va_Mi "[Ljava/lang/Object;" mi s) (hdg : decode cc pc = .ok (.ldc 110, 2)) (k : J p l e R s m args below meth c Q nL G A cells slots (pc + 2) L (.ref mi :: st) h) : J p l e R s m args below meth c Q nL G A cells slots pc L st h := fun ls H locs hl hP hA hS => va_ldcM hX.1 hX.2.1 hX.2.2.2.1 (hX.2.2.2.2.1 _ ck_J7_110) hM hdg (k ls H locs hl hP hA hS)
theorem j_getC (hX : CX p s m args c cc nL RJ7 G B A) {a n mi : Nat} {f : Nat → Option Nat} (hM : va_Mi "[Ljava/lang/Object;" mi s) (ha : h a = some (gQ G n f)) (hdg : decode cc pc = .ok (.invokevirtual 86, 3)) (hr : 1 ≤ R.frames ∧ (st.map fun v => v.category).sum + 14 ≤ R.locals) (k : J p l e R s m args below meth c Q nL G A cells slots (pc + 3) L (.ref mi :: st) h) : J p l e R s m args below meth c Q nL G A cells slots pc L (.ref a :: st) h := by
  intro ls H locs hl hP hA hS
  have hts := hX.2.2.2.2.1
  have hcell : H[a]? = some (vp_cell (G.2.1 3) (n, .inr (.inr (.inr (.inr f))))) := hP _ _ ha
  refine va_getC hX.1 hX.2.1 (by rw [hX.2.2.1]; exact hl.1.symm) hX.2.2.2.1 (hts _ q_520) (va_any rfl hX.2.2.2.2.2.1.2.2.2.2.2.1) (hts _ q_884) (hts _ q_521) (hts _ q_532) hM ⟨_, hcell, rfl, ?_⟩ hr.1 hr.2 hdg (k ls H locs hl hP hA hS)
  exact va_nmO (hX.2.2.2.2.2.1.1.2 3 (G.2.1 3, .object "java/lang/Object") rfl).2 rfl
theorem j_ishr (hX : CX p s m args c cc nL own G B A) {x z : Int} (hdg : decode cc pc = .ok (.ishr, 1)) (hz : iZ x >>> (iZ 1 &&& 31) = iZ z) (k : J p l e R s m args below meth c Q nL G A cells slots (pc + 1) L (.int (iZ z) :: st) h) : J p l e R s m args below meth c Q nL G A cells slots pc L (.int (iZ 1) :: .int (iZ x) :: st) h := fun ls H locs hl hP hA hS => lv_ishr hX.1 hX.2.1 hdg (by rw [hz]; exact k ls H locs hl hP hA hS)
end JL
