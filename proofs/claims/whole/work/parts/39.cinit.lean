/-! WHAT BEGINS: the class -/
set_option maxRecDepth 100000 in
set_option maxHeartbeats 4000000 in
theorem c_Cinit {l : Launch} {G : Gt} {B : Nat} {h : hF} {b : Nat} (h_O : h b = some (.inr (2, [.null, .null, .null]))) : Cv l G B yX0_init cX0_init 2 4 3 39 [.ref b] h (fun h' => ∃ (q5 q16 q29 : Nat) (f1 : Nat → Int), h' b = some (.inr (2, [.ref q5, .ref q16, .ref q29])) ∧ HS h h' b [(q5, ((.inr (1, LF 0 G.2.2 0)) : va_E)), (q16, ((.inr (1, LF 0 G.2.2 0)) : va_E)), (q29, (gI G 33 f1 : va_E))] ∧ ∀ j : Nat, j < 33 → f1 j = -1) := by
  refine Cv.of (by decide) (Nat.le_of_ble_eq_true rfl) ?_
  intro p e s m9 below meth c A hX hR hin
  have s0 := HS.rf h b
  refine J_abs (J0 := J p l e _ s m9 _ below meth c _ _ G A) ?_
  intro JX hji hjo
  have lp : ∀ (q5 q16 q29 : Nat) (d i : Nat) (f1 : Nat → Int) (h1 : hF), d + i = 33 → HS h h1 b [(q5, ((.inr (1, LF 0 G.2.2 0)) : va_E)), (q16, ((.inr (1, LF 0 G.2.2 0)) : va_E)), (q29, (gI G 33 f1 : va_E))] → h1 b = some (.inr (2, [.ref q5, .ref q16, .ref q29])) → (∀ j : Nat, j < i → f1 j = -1) → JX 3 39 36 [(0, .ref b), (1, .int (iZ ((i : Nat) : Int)))] [] h1 := by
    intro q5 q16 q29 d
    induction d with
    | zero =>
      intro i f1 h1 hd s9 h_O hx
      have h_CE := (s9.at (k := 2) rfl).1
      refine hji ?_
      refine j_iload_n hX dX0_init_36 rfl ?_
      refine j_aload_n hX dX0_init_37 rfl ?_
      refine j_get hX fl_X0_21_2 dX0_init_38 h_O (by rfl) ?_
      refine j_alenI hX dX0_init_41 h_CE ?_
      refine j_icmp_ge hX 58 dX0_init_42 (by decide) (by omega) (by omega) (fun c42 => ?_) (fun c42 => absurd c42 (by omega))
      exact j_vret hX hR dX0_init_58 ⟨q5, q16, q29, f1, h_O, s9, fun j hj => hx j (by omega)⟩
    | succ d ih =>
      intro i f1 h1 hd s9 h_O hx
      have h_CE := (s9.at (k := 2) rfl).1
      refine hji ?_
      refine j_iload_n hX dX0_init_36 rfl ?_
      refine j_aload_n hX dX0_init_37 rfl ?_
      refine j_get hX fl_X0_21_2 dX0_init_38 h_O (by rfl) ?_
      refine j_alenI hX dX0_init_41 h_CE ?_
      refine j_icmp_ge hX 58 dX0_init_42 (by decide) (by omega) (by omega) (fun c42 => absurd c42 (by omega)) (fun c42 => ?_)
      refine j_aload_n hX dX0_init_45 rfl ?_
      refine j_get hX fl_X0_21_2 dX0_init_46 h_O (by rfl) ?_
      refine j_iload_n hX dX0_init_49 rfl ?_
      refine j_iconst hX dX0_init_50 ?_
      refine j_iastN hX _ rfl dX0_init_51 h_CE (by omega) (by decide) ?_
      refine j_iinc hX dX0_init_52 rfl (by decide) ?_
      refine j_goto hX 36 dX0_init_55 (by decide) ?_
      have s10 := HS.upd (L := [(q5, ((.inr (1, LF 0 G.2.2 0)) : va_E)), (q16, ((.inr (1, LF 0 G.2.2 0)) : va_E))]) (e' := (gI G 33 (zup f1 i (-1)))) s9
      exact j_at (L' := [(0, .ref b), (1, .int (iZ (((i + 1) : Nat) : Int)))]) (hjo (ih (i + 1) _ _ (by omega) s10 ((hup_ne (s9.1 _ (List.mem_cons_of_mem _ (List.mem_cons_of_mem _ List.mem_cons_self))).2.2.symm).trans h_O) (fun j hj => by by_cases e : j = i; subst e; rw [zup_eq]; rw [zup_ne e]; exact hx j (by omega)))) ⟨rfl, rfl, trivial⟩
  refine hji ?_
  refine j_aload_n hX dX0_init_0 rfl ?_
  refine j_objInit hX oi_X0_3 oi_m oi_c dX0_init_1 (by decide) ?_
  refine j_aload_n hX dX0_init_4 rfl ?_
  refine j_new hX nw_X0_9 dX0_init_5 (by exact ⟨Nat.le_of_ble_eq_true rfl, Nat.le_of_ble_eq_true rfl⟩) (fun q5 hq5 => ?_)
  have s1 : HS h (hup h q5 (.inr (1, [.int (iZ 0), .null, .int (iZ 0)]))) b [(q5, (.inr (1, [.int (iZ 0), .null, .int (iZ 0)]) : va_E))] := s0.new h_O hq5 _
  have h_O : (hup h q5 (.inr (1, [.int (iZ 0), .null, .int (iZ 0)]))) b = _ := (hup_ne (s0.fresh h_O hq5).1.symm).trans h_O
  have h_Q5 : (hup h q5 (.inr (1, [.int (iZ 0), .null, .int (iZ 0)]))) q5 = _ := hup_eq _ _ _
  refine j_dup hX dX0_init_8 rfl ?_
  refine j_callI hX ci_X0_11 (c_Linit h_Q5) dX0_init_9 rfl (by exact ⟨Nat.le_of_ble_eq_true rfl, Nat.le_of_ble_eq_true rfl⟩) (by exact ⟨Nat.le_of_ble_eq_true rfl, Nat.le_of_ble_eq_true rfl⟩) (by exact Nat.le_of_ble_eq_true rfl) (fun h9 hp9 => ?_) rfl
  subst hp9
  have s2 : HS h (hup (hup h q5 (.inr (1, [.int (iZ 0), .null, .int (iZ 0)]))) q5 (.inr (1, LF 0 G.2.2 0))) b [(q5, ((.inr (1, LF 0 G.2.2 0)) : va_E))] := HS.upd (L := []) s1
  have h_O : (hup (hup h q5 (.inr (1, [.int (iZ 0), .null, .int (iZ 0)]))) q5 (.inr (1, LF 0 G.2.2 0))) b = _ := (hup_ne (s1.1 _ List.mem_cons_self).2.2.symm).trans h_O
  refine j_putFE hX ff_X0_12_2 hin dX0_init_12 h_O rfl rfl (Nat.le_of_ble_eq_true rfl) (fs2 := ([.ref q5, .null, .null])) rfl ?_
  have s3 := s2.put (.inr (2, [.ref q5, .null, .null]))
  have h_O : (hup (hup (hup h q5 (.inr (1, [.int (iZ 0), .null, .int (iZ 0)]))) q5 (.inr (1, LF 0 G.2.2 0))) b (.inr (2, [.ref q5, .null, .null]))) b = _ := hup_eq _ _ _
  refine j_aload_n hX dX0_init_15 rfl ?_
  refine j_new hX nw_X0_9 dX0_init_16 (by exact ⟨Nat.le_of_ble_eq_true rfl, Nat.le_of_ble_eq_true rfl⟩) (fun q16 hq16 => ?_)
  have s4 : HS h (hup (hup (hup (hup h q5 (.inr (1, [.int (iZ 0), .null, .int (iZ 0)]))) q5 (.inr (1, LF 0 G.2.2 0))) b (.inr (2, [.ref q5, .null, .null]))) q16 (.inr (1, [.int (iZ 0), .null, .int (iZ 0)]))) b [(q5, ((.inr (1, LF 0 G.2.2 0)) : va_E)), (q16, (.inr (1, [.int (iZ 0), .null, .int (iZ 0)]) : va_E))] := s3.new h_O hq16 _
  have h_O : (hup (hup (hup (hup h q5 (.inr (1, [.int (iZ 0), .null, .int (iZ 0)]))) q5 (.inr (1, LF 0 G.2.2 0))) b (.inr (2, [.ref q5, .null, .null]))) q16 (.inr (1, [.int (iZ 0), .null, .int (iZ 0)]))) b = _ := (hup_ne (s3.fresh h_O hq16).1.symm).trans h_O
  have h_Q16 : (hup (hup (hup (hup h q5 (.inr (1, [.int (iZ 0), .null, .int (iZ 0)]))) q5 (.inr (1, LF 0 G.2.2 0))) b (.inr (2, [.ref q5, .null, .null]))) q16 (.inr (1, [.int (iZ 0), .null, .int (iZ 0)]))) q16 = _ := hup_eq _ _ _
  refine j_dup hX dX0_init_19 rfl ?_
  refine j_callI hX ci_X0_11 (c_Linit h_Q16) dX0_init_20 rfl (by exact ⟨Nat.le_of_ble_eq_true rfl, Nat.le_of_ble_eq_true rfl⟩) (by exact ⟨Nat.le_of_ble_eq_true rfl, Nat.le_of_ble_eq_true rfl⟩) (by exact Nat.le_of_ble_eq_true rfl) (fun h20 hp20 => ?_) rfl
  subst hp20
  have s5 : HS h (hup (hup (hup (hup (hup h q5 (.inr (1, [.int (iZ 0), .null, .int (iZ 0)]))) q5 (.inr (1, LF 0 G.2.2 0))) b (.inr (2, [.ref q5, .null, .null]))) q16 (.inr (1, [.int (iZ 0), .null, .int (iZ 0)]))) q16 (.inr (1, LF 0 G.2.2 0))) b [(q5, ((.inr (1, LF 0 G.2.2 0)) : va_E)), (q16, ((.inr (1, LF 0 G.2.2 0)) : va_E))] := HS.upd (L := [(q5, ((.inr (1, LF 0 G.2.2 0)) : va_E))]) s4
  have h_O : (hup (hup (hup (hup (hup h q5 (.inr (1, [.int (iZ 0), .null, .int (iZ 0)]))) q5 (.inr (1, LF 0 G.2.2 0))) b (.inr (2, [.ref q5, .null, .null]))) q16 (.inr (1, [.int (iZ 0), .null, .int (iZ 0)]))) q16 (.inr (1, LF 0 G.2.2 0))) b = _ := (hup_ne (s4.1 _ (List.mem_cons_of_mem _ List.mem_cons_self)).2.2.symm).trans h_O
  refine j_putFE hX ff_X0_18_2 hin dX0_init_23 h_O rfl rfl (Nat.le_of_ble_eq_true rfl) (fs2 := ([.ref q5, .ref q16, .null])) rfl ?_
  have s6 := s5.put (.inr (2, [.ref q5, .ref q16, .null]))
  have h_O : (hup (hup (hup (hup (hup (hup h q5 (.inr (1, [.int (iZ 0), .null, .int (iZ 0)]))) q5 (.inr (1, LF 0 G.2.2 0))) b (.inr (2, [.ref q5, .null, .null]))) q16 (.inr (1, [.int (iZ 0), .null, .int (iZ 0)]))) q16 (.inr (1, LF 0 G.2.2 0))) b (.inr (2, [.ref q5, .ref q16, .null]))) b = _ := hup_eq _ _ _
  refine j_aload_n hX dX0_init_26 rfl ?_
  refine j_bipush hX dX0_init_27 (by decide) ?_
  refine j_newaI hX (N := 33) ac_int dX0_init_29 (by decide) (by exact ⟨Nat.le_of_ble_eq_true rfl, Nat.le_of_ble_eq_true rfl⟩) (fun q29 hq29 => ?_)
  have s7 : HS h (hup (hup (hup (hup (hup (hup (hup h q5 (.inr (1, [.int (iZ 0), .null, .int (iZ 0)]))) q5 (.inr (1, LF 0 G.2.2 0))) b (.inr (2, [.ref q5, .null, .null]))) q16 (.inr (1, [.int (iZ 0), .null, .int (iZ 0)]))) q16 (.inr (1, LF 0 G.2.2 0))) b (.inr (2, [.ref q5, .ref q16, .null]))) q29 (gI G 33 (fun _ => 0))) b [(q5, ((.inr (1, LF 0 G.2.2 0)) : va_E)), (q16, ((.inr (1, LF 0 G.2.2 0)) : va_E)), (q29, (gI G 33 (fun _ => 0) : va_E))] := s6.new h_O hq29 _
  have h_O : (hup (hup (hup (hup (hup (hup (hup h q5 (.inr (1, [.int (iZ 0), .null, .int (iZ 0)]))) q5 (.inr (1, LF 0 G.2.2 0))) b (.inr (2, [.ref q5, .null, .null]))) q16 (.inr (1, [.int (iZ 0), .null, .int (iZ 0)]))) q16 (.inr (1, LF 0 G.2.2 0))) b (.inr (2, [.ref q5, .ref q16, .null]))) q29 (gI G 33 (fun _ => 0))) b = _ := (hup_ne (s6.fresh h_O hq29).1.symm).trans h_O
  refine j_putFE hX ff_X0_21_2 hin dX0_init_31 h_O rfl rfl (Nat.le_of_ble_eq_true rfl) (fs2 := ([.ref q5, .ref q16, .ref q29])) rfl ?_
  have s8 := s7.put (.inr (2, [.ref q5, .ref q16, .ref q29]))
  have h_O : (hup (hup (hup (hup (hup (hup (hup (hup h q5 (.inr (1, [.int (iZ 0), .null, .int (iZ 0)]))) q5 (.inr (1, LF 0 G.2.2 0))) b (.inr (2, [.ref q5, .null, .null]))) q16 (.inr (1, [.int (iZ 0), .null, .int (iZ 0)]))) q16 (.inr (1, LF 0 G.2.2 0))) b (.inr (2, [.ref q5, .ref q16, .null]))) q29 (gI G 33 (fun _ => 0))) b (.inr (2, [.ref q5, .ref q16, .ref q29]))) b = _ := hup_eq _ _ _
  refine j_iconst hX dX0_init_34 ?_
  refine j_istore_n hX dX0_init_35 (by decide) ?_
  exact j_at (L' := [(0, .ref b), (1, .int (iZ ((0 : Nat) : Int)))]) (hjo (lp q5 q16 q29 33 0 (fun _ => 0) _ (by omega) s8 h_O (fun j hj => by omega))) ⟨rfl, rfl, trivial⟩
set_option maxRecDepth 100000 in
set_option maxHeartbeats 4000000 in
theorem c_init0 {l : Launch} {G : Gt} {B : Nat} {h : hF} {b : Nat} (h_O : h b = some (.inr (7, [.null, .null, .null]))) : Cv l G B yX5_init cX5_init 1 5 13 120 [.ref b] h (fun h' => ∃ (q5 c1 c2 c3 q16 p1 p2 p3 p4 p5 p6 p7 q27 : Nat) (f1 : Nat → Int), h' b = some (.inr (7, [.ref q5, .ref q16, .ref q27])) ∧ HS h h' b [(q5, ((.inr (2, [.ref c1, .ref c2, .ref c3])) : va_E)), (c1, ((.inr (1, LF 0 G.2.2 0)) : va_E)), (c2, ((.inr (1, LF 0 G.2.2 0)) : va_E)), (c3, (gI G 33 f1 : va_E)), (q16, ((.inr (5, [.int (iZ 0), .int (iZ 0), .int (iZ 0), .ref p1, .ref p2, .ref p3, .ref p4, .ref p5, .ref p6, .ref p7])) : va_E)), (p1, (gJ G 3 (fun _ => 0) : va_E)), (p2, (gI G 3 (fun _ => 0) : va_E)), (p3, (gJ G 3 (fun _ => 0) : va_E)), (p4, (gJ G 3 (fun _ => 0) : va_E)), (p5, (gJ G 3 (fun _ => 0) : va_E)), (p6, (gJ G 3 (fun _ => 0) : va_E)), (p7, (gJ G 3 (fun _ => 0) : va_E)), (q27, (.inr (3, FF4 0 (-1) 0 0) : va_E))] ∧ ∀ j : Nat, j < 33 → f1 j = -1) := by
  refine Cv.of (by decide) (Nat.le_of_ble_eq_true rfl) ?_
  intro p e s m9 below meth c A hX hR hin
  have s0 := HS.rf h b
  refine j_aload_n hX dX5_init_0 rfl ?_
  refine j_objInit hX oi_X5_1 oi_m oi_c dX5_init_1 (by decide) ?_
  refine j_aload_n hX dX5_init_4 rfl ?_
  refine j_new hX nw_X5_7 dX5_init_5 (by exact ⟨Nat.le_of_ble_eq_true rfl, Nat.le_of_ble_eq_true rfl⟩) (fun q5 hq5 => ?_)
  have s1 : HS h (hup h q5 (.inr (2, [.null, .null, .null]))) b ([] ++ [(q5, (.inr (2, [.null, .null, .null]) : va_E))]) := s0.new h_O hq5 _
  have h_O : (hup h q5 (.inr (2, [.null, .null, .null]))) b = some (.inr (7, [.null, .null, .null])) := (hup_ne (s0.fresh h_O hq5).1.symm).trans h_O
  have h_Q5 : (hup h q5 (.inr (2, [.null, .null, .null]))) q5 = _ := hup_eq _ _ _
  refine j_dup hX dX5_init_8 rfl ?_
  refine j_callI hX ci_X5_9 (c_Cinit h_Q5) dX5_init_9 rfl (by exact ⟨Nat.le_of_ble_eq_true rfl, Nat.le_of_ble_eq_true rfl⟩) (by exact ⟨Nat.le_of_ble_eq_true rfl, Nat.le_of_ble_eq_true rfl⟩) (by exact Nat.le_of_ble_eq_true rfl) (fun h9 hp9 => ?_) rfl
  obtain ⟨c1, c2, c3, f1, hc9, sc9, hf1⟩ := hp9
  obtain ⟨s2, h_O⟩ := s1.call h_O sc9 hc9
  have s2 : HS h h9 b [(q5, ((.inr (2, [.ref c1, .ref c2, .ref c3])) : va_E)), (c1, ((.inr (1, LF 0 G.2.2 0)) : va_E)), (c2, ((.inr (1, LF 0 G.2.2 0)) : va_E)), (c3, (gI G 33 f1 : va_E))] := s2
  refine j_putFE hX ff_X5_10_7 hin dX5_init_12 h_O rfl rfl (Nat.le_of_ble_eq_true rfl) (fs2 := ([.ref q5, .null, .null])) rfl ?_
  have s3 := s2.put (.inr (7, [.ref q5, .null, .null]))
  have h_O : hup h9 b (.inr (7, [.ref q5, .null, .null])) b = some (.inr (7, [.ref q5, .null, .null])) := hup_eq _ _ _
  refine j_aload_n hX dX5_init_15 rfl ?_
  refine j_new hX nw_X5_16 dX5_init_16 (by exact ⟨Nat.le_of_ble_eq_true rfl, Nat.le_of_ble_eq_true rfl⟩) (fun q16 hq16 => ?_)
  have s4 := s3.new h_O hq16 (.inr (5, [.int (iZ 0), .int (iZ 0), .int (iZ 0), .null, .null, .null, .null, .null, .null, .null]))
  have h_O : hup (hup h9 b (.inr (7, [.ref q5, .null, .null]))) q16 (.inr (5, [.int (iZ 0), .int (iZ 0), .int (iZ 0), .null, .null, .null, .null, .null, .null, .null])) b = some (.inr (7, [.ref q5, .null, .null])) := (hup_ne (s3.fresh h_O hq16).1.symm).trans h_O
  have h_Q16 : hup (hup h9 b (.inr (7, [.ref q5, .null, .null]))) q16 (.inr (5, [.int (iZ 0), .int (iZ 0), .int (iZ 0), .null, .null, .null, .null, .null, .null, .null])) q16 = _ := hup_eq _ _ _
  refine j_dup hX dX5_init_19 rfl ?_
  refine j_callIN hX cn_X5_18 ⟨rfl, q_78⟩ (c_PHinit h_Q16) dX5_init_20 rfl (by exact ⟨Nat.le_of_ble_eq_true rfl, Nat.le_of_ble_eq_true rfl⟩) (by exact ⟨Nat.le_of_ble_eq_true rfl, Nat.le_of_ble_eq_true rfl⟩) (by exact Nat.le_of_ble_eq_true rfl) (fun h20 hp20 => ?_) rfl
  obtain ⟨p1, p2, p3, p4, p5, p6, p7, hc20, sc20⟩ := hp20
  obtain ⟨s5, h_O⟩ := s4.call h_O sc20 hc20
  have s5 : HS h h20 b [(q5, ((.inr (2, [.ref c1, .ref c2, .ref c3])) : va_E)), (c1, ((.inr (1, LF 0 G.2.2 0)) : va_E)), (c2, ((.inr (1, LF 0 G.2.2 0)) : va_E)), (c3, (gI G 33 f1 : va_E)), (q16, ((.inr (5, [.int (iZ 0), .int (iZ 0), .int (iZ 0), .ref p1, .ref p2, .ref p3, .ref p4, .ref p5, .ref p6, .ref p7])) : va_E)), (p1, (gJ G 3 (fun _ => 0) : va_E)), (p2, (gI G 3 (fun _ => 0) : va_E)), (p3, (gJ G 3 (fun _ => 0) : va_E)), (p4, (gJ G 3 (fun _ => 0) : va_E)), (p5, (gJ G 3 (fun _ => 0) : va_E)), (p6, (gJ G 3 (fun _ => 0) : va_E)), (p7, (gJ G 3 (fun _ => 0) : va_E))] := s5
  refine j_putFE hX ff_X5_19_7 hin dX5_init_23 h_O rfl rfl (Nat.le_of_ble_eq_true rfl) (fs2 := ([.ref q5, .ref q16, .null])) rfl ?_
  have s6 := s5.put (.inr (7, [.ref q5, .ref q16, .null]))
  have h_O : hup h20 b (.inr (7, [.ref q5, .ref q16, .null])) b = some (.inr (7, [.ref q5, .ref q16, .null])) := hup_eq _ _ _
  refine j_aload_n hX dX5_init_26 rfl ?_
  refine j_new hX nw_X5_23 dX5_init_27 (by exact ⟨Nat.le_of_ble_eq_true rfl, Nat.le_of_ble_eq_true rfl⟩) (fun q27 hq27 => ?_)
  have s7 := s6.new h_O hq27 (.inr (3, FF4 0 0 0 0))
  have h_O : hup (hup h20 b (.inr (7, [.ref q5, .ref q16, .null]))) q27 (.inr (3, FF4 0 0 0 0)) b = some (.inr (7, [.ref q5, .ref q16, .null])) := (hup_ne (s6.fresh h_O hq27).1.symm).trans h_O
  have h_Q27 : hup (hup h20 b (.inr (7, [.ref q5, .ref q16, .null]))) q27 (.inr (3, FF4 0 0 0 0)) q27 = _ := hup_eq _ _ _
  refine j_dup hX dX5_init_30 rfl ?_
  refine j_callIN hX cn_X5_25 ⟨rfl, q_117⟩ (c_Finit h_Q27) dX5_init_31 rfl (by exact ⟨Nat.le_of_ble_eq_true rfl, Nat.le_of_ble_eq_true rfl⟩) (by exact ⟨Nat.le_of_ble_eq_true rfl, Nat.le_of_ble_eq_true rfl⟩) (by exact Nat.le_of_ble_eq_true rfl) (fun h31 hp31 => ?_) rfl
  subst hp31
  have s8 := s7.upd (e' := .inr (3, FF4 0 (-1) 0 0))
  have h_O : hup (hup (hup h20 b (.inr (7, [.ref q5, .ref q16, .null]))) q27 (.inr (3, FF4 0 0 0 0))) q27 (.inr (3, FF4 0 (-1) 0 0)) b = some (.inr (7, [.ref q5, .ref q16, .null])) := (hup_ne (s6.fresh ((hup_ne (s6.fresh (hup_eq _ _ _) hq27).1.symm).symm.trans h_O) hq27).1.symm).trans h_O
  refine j_putFE hX ff_X5_26_7 hin dX5_init_34 h_O rfl rfl (Nat.le_of_ble_eq_true rfl) (fs2 := ([.ref q5, .ref q16, .ref q27])) rfl ?_
  have s9 := s8.put (.inr (7, [.ref q5, .ref q16, .ref q27]))
  refine j_wide (k := 13) (n := 120) (by first | omega | exact Nat.le_of_ble_eq_true rfl) (by first | omega | exact Nat.le_of_ble_eq_true rfl) ?_
  exact j_vret hX hR dX5_init_37 ⟨q5, c1, c2, c3, q16, p1, p2, p3, p4, p5, p6, p7, q27, f1, hup_eq _ _ _, s9, hf1⟩
def posC (k : Nat) : Nat := if k = 0 then 0 else if k = 1 then 1 else if k = 3 then 2 else k - 2
theorem c_init {l : Launch} {G : Gt} {B : Nat} {h : hF} {b : Nat} (h_O : h b = some (.inr (7, [.null, .null, .null]))) (hbB : ∀ a : Nat, h a ≠ none → B ≤ a) (hgB : G.2.2 < B) : Cv l G B yX5_init cX5_init 1 5 13 120 [.ref b] h (fun h' => ∃ AD : Nat → Nat, Cl G h' AD (fun _ _ => 0) 0 0 ∧ AD 15 = b ∧ (∀ k : Nat, Lv 0 0 k → AD k = b ∨ h (AD k) = none) ∧ ∀ a : Nat, h a ≠ none → a ≠ b → h' a = h a) := by
  intro sz p e ha hc hk s m args' below hf happ hP hK
  obtain ⟨n, o, h1, h2, h3, ⟨⟨h', q1, hq, q3⟩, q4⟩⟩ := c_init0 h_O sz p e ha hc hk s m args' below hf happ hP hK
  refine ⟨n, o, h1, h2, h3, ⟨h', q1, ?_, q3⟩, q4⟩
  obtain ⟨q5, c1, c2, c3, q16, p1, p2, p3, p4, p5, p6, p7, q27, f1, hb, hs, hf1⟩ := hq
  have hn : ([q5, c1, c2, c3, q16, p1, p2, p3, p4, p5, p6, p7, q27, b] : List Nat).Nodup := by
    have e : ([q5, c1, c2, c3, q16, p1, p2, p3, p4, p5, p6, p7, q27, b] : List Nat) = ([(q5, ((.inr (2, [.ref c1, .ref c2, .ref c3])) : va_E)), (c1, ((.inr (1, LF 0 G.2.2 0)) : va_E)), (c2, ((.inr (1, LF 0 G.2.2 0)) : va_E)), (c3, (gI G 33 f1 : va_E)), (q16, ((.inr (5, [.int (iZ 0), .int (iZ 0), .int (iZ 0), .ref p1, .ref p2, .ref p3, .ref p4, .ref p5, .ref p6, .ref p7])) : va_E)), (p1, (gJ G 3 (fun _ => 0) : va_E)), (p2, (gI G 3 (fun _ => 0) : va_E)), (p3, (gJ G 3 (fun _ => 0) : va_E)), (p4, (gJ G 3 (fun _ => 0) : va_E)), (p5, (gJ G 3 (fun _ => 0) : va_E)), (p6, (gJ G 3 (fun _ => 0) : va_E)), (p7, (gJ G 3 (fun _ => 0) : va_E)), (q27, (.inr (3, FF4 0 (-1) 0 0) : va_E))] : List (Nat × va_E)).map Prod.fst ++ [b] := rfl
    rw [e, List.nodup_append]
    refine ⟨hs.2.1, List.nodup_cons.mpr ⟨by simp, List.nodup_nil⟩, fun x hx y hy z => ?_⟩
    obtain ⟨p9, hp9, rfl⟩ := List.mem_map.mp hx
    have hy2 : y = b := by simpa using hy
    exact (hs.1 p9 hp9).2.2 (by rw [z, hy2])
  have lv0 : ∀ k : Nat, Lv 0 0 k → k ≤ 15 ∧ k ≠ 2 ∧ k ≠ 4 := fun k hk => by unfold Lv at hk; omega
  have e0 : ∀ k : Nat, Lv 0 0 k → posC k < 14 ∧ ∀ j : Nat, Lv 0 0 j → posC k = posC j → k = j := fun k hk => by
    have q := lv0 k hk
    refine ⟨by unfold posC; (repeat' split) <;> omega, fun j hj z => ?_⟩
    have q2 := lv0 j hj
    unfold posC at z
    (repeat' split at z) <;> omega
  refine ⟨fun k => if k = 2 ∨ k = 4 then G.2.2 else ([q5, c1, c2, c3, q16, p1, p2, p3, p4, p5, p6, p7, q27, b] : List Nat)[posC k]?.getD 0, ⟨⟨fun i j hi hj z => ?_, ⟨(hs.at (k := 0) rfl).1, hb⟩, ⟨0, 0, fun _ => none, (hs.at (k := 1) rfl).1, Or.inl ⟨rfl, rfl⟩⟩, ⟨0, 0, fun _ => none, (hs.at (k := 2) rfl).1, Or.inl ⟨rfl, rfl⟩⟩, ⟨f1, (hs.at (k := 3) rfl).1, fun r hr => ⟨by rw [hf1 r hr]; omega, fun k hk => by rw [hf1 r hr]; exact ⟨fun z => by omega, fun ⟨o, j, o1, o2, _⟩ => by omega⟩⟩⟩, fun t t1 t2 => by omega, fun i i1 i2 => by omega, ⟨⟨0, 0, 0, (hs.at (k := 4) rfl).1, Or.inl rfl⟩, ⟨_, (hs.at (k := 6) rfl).1⟩, fun k hk => ?_⟩, 0, -1, 0, 0, (hs.at (k := 12) rfl).1, Or.inl rfl⟩, fun t t1 t2 => by omega, 0, 0, 0, fun _ => 0, (hs.at (k := 4) rfl).1, (hs.at (k := 5) rfl).1, Or.inl rfl, fun z => by omega⟩, rfl, fun k hk => ?_, fun a a1 a2 => hs.2.2 a a2 (fun p9 hp9 z => a1 (by rw [z]; exact (hs.1 p9 hp9).2.1))⟩
  · have l1 := lv0 i hi
    have l2 := lv0 j hj
    dsimp only at z
    rw [if_neg (by omega), if_neg (by omega)] at z
    have g1 := (e0 i hi).1
    have g2 := (e0 j hj).1
    have x1 : ([q5, c1, c2, c3, q16, p1, p2, p3, p4, p5, p6, p7, q27, b] : List Nat)[posC i]? = some (([q5, c1, c2, c3, q16, p1, p2, p3, p4, p5, p6, p7, q27, b] : List Nat)[posC i]?.getD 0) := by rw [List.getElem?_eq_getElem (by exact g1)]; rfl
    have x2 : ([q5, c1, c2, c3, q16, p1, p2, p3, p4, p5, p6, p7, q27, b] : List Nat)[posC j]? = some (([q5, c1, c2, c3, q16, p1, p2, p3, p4, p5, p6, p7, q27, b] : List Nat)[posC j]?.getD 0) := by rw [List.getElem?_eq_getElem (by exact g2)]; rfl
    exact (e0 i hi).2 j hj ((List.getElem?_inj (l := [q5, c1, c2, c3, q16, p1, p2, p3, p4, p5, p6, p7, q27, b]) (i := posC i) (j := posC j) (by exact g1) hn).mp (by rw [x1, x2]; exact congrArg some z))
  · rcases hk with rfl | ⟨k1, k2⟩
    · exact ⟨_, (hs.at (k := 5) rfl).1⟩
    · rcases (show k = 9 ∨ k = 10 ∨ k = 11 ∨ k = 12 ∨ k = 13 by omega) with rfl | rfl | rfl | rfl | rfl
      · exact ⟨_, (hs.at (k := 7) rfl).1⟩
      · exact ⟨_, (hs.at (k := 8) rfl).1⟩
      · exact ⟨_, (hs.at (k := 9) rfl).1⟩
      · exact ⟨_, (hs.at (k := 10) rfl).1⟩
      · exact ⟨_, (hs.at (k := 11) rfl).1⟩
  · have l1 := lv0 k hk
    match k, l1 with
    | 0, _ => exact Or.inr (hs.at (k := 0) rfl).2
    | 1, _ => exact Or.inr (hs.at (k := 1) rfl).2
    | 3, _ => exact Or.inr (hs.at (k := 2) rfl).2
    | 5, _ => exact Or.inr (hs.at (k := 3) rfl).2
    | 6, _ => exact Or.inr (hs.at (k := 4) rfl).2
    | 7, _ => exact Or.inr (hs.at (k := 5) rfl).2
    | 8, _ => exact Or.inr (hs.at (k := 6) rfl).2
    | 9, _ => exact Or.inr (hs.at (k := 7) rfl).2
    | 10, _ => exact Or.inr (hs.at (k := 8) rfl).2
    | 11, _ => exact Or.inr (hs.at (k := 9) rfl).2
    | 12, _ => exact Or.inr (hs.at (k := 10) rfl).2
    | 13, _ => exact Or.inr (hs.at (k := 11) rfl).2
    | 14, _ => exact Or.inr (hs.at (k := 12) rfl).2
    | 15, _ => exact Or.inl rfl
    | 2, h9 => exact absurd rfl h9.2.1
    | 4, h9 => exact absurd rfl h9.2.2
    | k + 16, h9 => exact absurd h9.1 (by omega)
