/-! THE CLASS: task, where it does not throw -/
set_option maxRecDepth 100000 in
set_option maxHeartbeats 4000000 in
theorem c_task {l : Launch} {G : Gt} {B : Nat} {h : hF} {AD : Nat → Nat} {σ : St} {n m : Nat} (hL : Cl G h AD σ n m) (hO : OK n m σ) {x : Int} (hx9 : -9223372036854775808 ≤ x ∧ x < 9223372036854775808) {y : Int} (hy9 : -9223372036854775808 ≤ y ∧ y < 9223372036854775808) {r : Int} (hr9 : -2147483648 ≤ r ∧ r < 2147483648) (hnt : ¬ ((1 ≤ x ∧ x ≤ 1000) ∧ y = 0 ∧ (0 ≤ r ∧ r ≤ 255) ∧ n ≠ 16)) : Ct l G B yX5_task cX5_task 7 (some .int) 7 5 70 [.ref (AD 15), .long (lZ x), .long (lZ y), .int (iZ r)] h (fun v h' => v = .int (iZ (tskR n x y r)) ∧ ∃ AD2 : Nat → Nat, Cl G h' AD2 (tskT σ n x y r) (tskN n x y r) m ∧ Fn h h' AD AD2 n m (tskN n x y r) m ∧ AD2 15 = AD 15) := by
  refine Ct.of (by decide) (Nat.le_of_ble_eq_true rfl) ?_
  intro p e s m9 below meth c A hX hR hin
  have hC := hL.1
  have hn16 := hO.1
  have hm8 := hO.2.1
  have h_C := hC.2.1.1
  have hTL := hC.2.2.1
  have hIL := hC.2.2.2.1
  have hTL9 := hTL
  obtain ⟨mcT, capT, gT, h_TL, -⟩ := hTL9
  have hIL9 := hIL
  obtain ⟨mcI, capI, gI9, h_IL, -⟩ := hIL9
  have h_S := hC.2.1.2
  refine j_lload_n hX dX5_task_0 rfl ?_
  refine j_callS hX cs_X5_30 (c_isLength (by omega)) dX5_task_1 rfl (by exact ⟨Nat.le_of_ble_eq_true rfl, Nat.le_of_ble_eq_true rfl⟩) (by exact ⟨Nat.le_of_ble_eq_true rfl, Nat.le_of_ble_eq_true rfl⟩) (by exact Nat.le_of_ble_eq_true rfl) (fun v1 h1 hp1 => ?_) rfl
  obtain ⟨⟨y1, rfl, hy1⟩, rfl⟩ := hp1
  refine j_if_eq hX 20 dX5_task_4 (by decide) (by omega) (fun c4 => ?_) (fun c4 => ?_)
  · refine j_bipush hX dX5_task_20 (by decide) ?_
    refine j_wide (k := 5) (n := 70) (by first | omega | exact Nat.le_of_ble_eq_true rfl) (by first | omega | exact Nat.le_of_ble_eq_true rfl) ?_
    exact j_iret hX hR dX5_task_22 ⟨by rw [tskR, if_neg (by omega)], AD, by rw [tskT, if_neg (by omega), tskN, if_neg (by omega)]; exact ⟨hL, Fn.of (Fc.rf h AD n m), rfl⟩⟩
  · refine j_iload hX dX5_task_7 rfl ?_
    refine j_if_lt hX 20 dX5_task_9 (by decide) (by omega) (fun c9 => ?_) (fun c9 => ?_)
    · refine j_bipush hX dX5_task_20 (by decide) ?_
      refine j_wide (k := 5) (n := 70) (by first | omega | exact Nat.le_of_ble_eq_true rfl) (by first | omega | exact Nat.le_of_ble_eq_true rfl) ?_
      exact j_iret hX hR dX5_task_22 ⟨by rw [tskR, if_neg (by omega)], AD, by rw [tskT, if_neg (by omega), tskN, if_neg (by omega)]; exact ⟨hL, Fn.of (Fc.rf h AD n m), rfl⟩⟩
    · refine j_iload hX dX5_task_12 rfl ?_
      refine j_sipush hX dX5_task_14 (by decide) ?_
      refine j_icmp_le hX 23 dX5_task_17 (by decide) (by omega) (by omega) (fun c17 => ?_) (fun c17 => ?_)
      · refine j_lload_n hX dX5_task_23 rfl ?_
        refine j_lconst0 hX dX5_task_24 ?_
        refine j_lcmp_lt hX 37 dX5_task_25 dX5_task_26 (by decide) (by omega) (by omega) (fun c25 => ?_) (fun c25 => ?_)
        · refine j_bipush hX dX5_task_37 (by decide) ?_
          refine j_wide (k := 5) (n := 70) (by first | omega | exact Nat.le_of_ble_eq_true rfl) (by first | omega | exact Nat.le_of_ble_eq_true rfl) ?_
          exact j_iret hX hR dX5_task_39 ⟨by rw [tskR, if_neg (by omega)], AD, by rw [tskT, if_neg (by omega), tskN, if_neg (by omega)]; exact ⟨hL, Fn.of (Fc.rf h AD n m), rfl⟩⟩
        · refine j_lload_n hX dX5_task_29 rfl ?_
          refine j_ldc2 hX k_X5_34 (z := 20000) (by decide) dX5_task_30 ?_
          refine j_lcmp_le hX 40 dX5_task_33 dX5_task_34 (by decide) (by omega) (by omega) (fun c33 => ?_) (fun c33 => ?_)
          · refine j_aload_n hX dX5_task_40 rfl ?_
            refine j_get hX fl_X5_10_7 dX5_task_41 h_S (by rfl) ?_
            refine j_get hX fl_X5_36_2 dX5_task_44 h_C (by rfl) ?_
            refine j_callV hX cv_X5_40 (c_size hTL) dX5_task_47 h_TL rfl rfl (by exact ⟨Nat.le_of_ble_eq_true rfl, Nat.le_of_ble_eq_true rfl⟩) (by exact ⟨Nat.le_of_ble_eq_true rfl, Nat.le_of_ble_eq_true rfl⟩) (by exact Nat.le_of_ble_eq_true rfl) (fun v47 h47 hp47 => ?_) rfl
            obtain ⟨rfl, rfl⟩ := hp47
            refine j_iconst hX dX5_task_50 ?_
            refine j_iadd hX dX5_task_51 ?_
            refine j_istore hX dX5_task_52 (by decide) ?_
            refine j_iload hX dX5_task_54 rfl ?_
            refine j_bipush hX dX5_task_56 (by decide) ?_
            refine j_icmp_le hX 64 dX5_task_58 (by decide) (by omega) (by omega) (fun c58 => ?_) (fun c58 => ?_)
            · refine j_lload_n hX dX5_task_64 rfl ?_
              refine j_lconst0 hX dX5_task_65 ?_
              refine j_lcmp_ne hX 80 dX5_task_66 dX5_task_67 (by decide) (by omega) (by omega) (fun c66 => ?_) (fun c66 => absurd c66 (by omega))
              refine j_aload_n hX dX5_task_80 rfl ?_
              refine j_get hX fl_X5_10_7 dX5_task_81 h_S (by rfl) ?_
              refine j_get hX fl_X5_36_2 dX5_task_84 h_C (by rfl) ?_
              refine j_new hX nw_X5_53 dX5_task_87 (by exact ⟨Nat.le_of_ble_eq_true rfl, Nat.le_of_ble_eq_true rfl⟩) (fun q87 hq87 => ?_)
              have h_NT : hup h q87 (.inr (6, [.int (iZ 0), .long (lZ 0), .long (lZ 0), .long (lZ 0), .long (lZ 0), .long (lZ 0), .int (iZ 0), .int (iZ 0), .null, .null, .null, .int (iZ 0), .long (lZ 0)])) q87 = _ := hup_eq _ _ _
              refine j_dup hX dX5_task_90 rfl ?_
              refine j_iload hX dX5_task_91 rfl ?_
              refine j_lload_n hX dX5_task_93 rfl ?_
              refine j_lload_n hX dX5_task_94 rfl ?_
              refine j_iload hX dX5_task_95 rfl ?_
              refine j_callI hX ci_X5_55 (c_Tinit (si := (n : Int) + 1) (ow9 := x) (pe := y) (ra := r) h_NT) dX5_task_97 rfl (by exact ⟨Nat.le_of_ble_eq_true rfl, Nat.le_of_ble_eq_true rfl⟩) (by exact ⟨Nat.le_of_ble_eq_true rfl, Nat.le_of_ble_eq_true rfl⟩) (by exact Nat.le_of_ble_eq_true rfl) (fun h97 hp97 => ?_) rfl
              obtain ⟨q1, q2, q3, ⟨z1, z2, z3, d12, d13, d23⟩, hB, hQ1, hQ2, hQ3, hen0⟩ := hp97
              have db1 : q87 ≠ q1 := fun z => by rw [← z, hup_eq] at z1; cases z1
              have db2 : q87 ≠ q2 := fun z => by rw [← z, hup_eq] at z2; cases z2
              have db3 : q87 ≠ q3 := fun z => by rw [← z, hup_eq] at z3; cases z3
              rw [hup_ne db1.symm] at z1
              rw [hup_ne db2.symm] at z2
              rw [hup_ne db3.symm] at z3
              have nn : ∀ {a b : Nat}, h a ≠ none → h b = none → a ≠ b := fun q9 q8 z => q9 (by rw [z]; exact q8)
              have hen1 : ∀ a : Nat, h a ≠ none → h97 a = h a := fun a q9 => (hen0 a (nn q9 hq87) (nn q9 z1) (nn q9 z2) (nn q9 z3)).trans (hup_ne (nn q9 hq87))
              have hTL2 : LsAt G h97 (AD 1) (AD 2) n (fun i => some (AD (24 + 4 * i))) := hTL.keep (hen1 _ (hC.live (by unfold Lv; omega))) (fun z9 => hen1 _ (hC.live (by unfold Lv; omega)))
              have h_TL : h97 (AD 1) = _ := (hen1 _ (hC.live (by unfold Lv; omega))).trans h_TL
              refine j_callV hX cv_X5_58 (c_add (f2 := fun i => some (if i = n then q87 else AD (24 + 4 * i))) hTL2 (by omega) hB rfl List.mem_cons_self (fun z9 i hi yy hyy => by cases hyy; have e9 := hC.task (t := i + 1) ⟨by omega, by omega⟩; rw [show 20 + 4 * (i + 1) = 24 + 4 * i by omega] at e9; exact ⟨_, (hen1 _ (by rw [e9]; exact fun z => by cases z)).trans e9⟩) (fun i hi => by show some (if i = n then q87 else AD (24 + 4 * i)) = some (AD (24 + 4 * i)); rw [if_neg (by omega)]) (by show some (if n = n then q87 else AD (24 + 4 * n)) = some q87; rw [if_pos rfl])) dX5_task_100 h_TL rfl rfl (by exact ⟨Nat.le_of_ble_eq_true rfl, Nat.le_of_ble_eq_true rfl⟩) (by exact ⟨Nat.le_of_ble_eq_true rfl, Nat.le_of_ble_eq_true rfl⟩) (by exact Nat.le_of_ble_eq_true rfl) (fun v100 h100 hp100 => ?_) rfl
              obtain ⟨rfl, te2, hLn, ht2, hen⟩ := hp100
              have ht3 : (1 ≤ n ∧ te2 = AD 2) ∨ h te2 = none := by
                rcases ht2 with z9 | z9
                · exact Or.inl z9
                · refine Or.inr ?_
                  cases hh : h te2 with
                  | none => rfl
                  | some xx => rw [hen1 te2 (by rw [hh]; exact fun z => by cases z), hh] at z9; cases z9
              have nt : ∀ {a : Nat} {e9 : va_E}, h a = none → h97 a = some e9 → a ≠ te2 := fun a1 a2 z => by
                rcases ht2 with ⟨z8, z9⟩ | z9
                · exact hC.live (k := 2) (by unfold Lv; omega) (by rw [← z9, ← z]; exact a1)
                · rw [← z, a2] at z9; cases z9
              have n1 : ∀ {a : Nat}, h a = none → a ≠ AD 1 := fun a1 z => hC.live (k := 1) (by unfold Lv; omega) (by rw [← z]; exact a1)
              have hC2 := hC.newT (ow9 := x) (pe := y) (ra := r) (b := q87) (q1 := q1) (q2 := q2) (q3 := q3) (te2 := te2) (h' := h100) (by omega) hO.2.1 hq87 z1 z2 z3 ⟨db1, db2, db3, d12, d13, d23⟩ ⟨nt hq87 hB, nt z1 hQ1, nt z2 hQ2, nt z3 hQ3⟩ ht3 ((hen _ (n1 hq87) (nt hq87 hB)).trans hB) ((hen _ (n1 z1) (nt z1 hQ1)).trans hQ1) ((hen _ (n1 z2) (nt z2 hQ2)).trans hQ2) ((hen _ (n1 z3) (nt z3 hQ3)).trans hQ3) (by
                  obtain ⟨a1, a2, a3, a4, a5⟩ := hLn
                  refine ⟨a1, a2, a3, a4, ?_⟩
                  rcases a5 with a5 | ⟨b1, b2, b3, b4, b5⟩
                  · exact Or.inl a5
                  · refine Or.inr ⟨b1, b2, b3, b4, fun i hi => ?_⟩
                    rw [b5 i hi]
                    show some (if i = n then q87 else AD (24 + 4 * i)) = some (adT AD n q87 q1 q2 q3 te2 (24 + 4 * i))
                    unfold adT
                    by_cases e : i = n
                    · rw [if_pos e, if_pos (by omega)]
                    · rw [if_neg e, if_neg (by omega), if_neg (by omega), if_neg (by omega), if_neg (by omega), if_neg (by omega)]) (fun a b1 b2 b3 b4 b5 b6 => (hen a b1 b2).trans ((hen0 a b3 b4 b5 b6).trans (hup_ne b3)))
              have e15 : adT AD n q87 q1 q2 q3 te2 15 = AD 15 := by unfold adT; rw [if_neg (by omega), if_neg (by omega), if_neg (by omega), if_neg (by omega), if_neg (by omega)]
              have hFn : Fn h h100 AD (adT AD n q87 q1 q2 q3 te2) n m (n + 1) m := ⟨fun a b1 b2 => (hen a (fun z => b2 1 (by unfold Lv; omega) z) (fun z => by
                  rcases ht3 with ⟨z8, z9⟩ | z9
                  · exact b2 2 (by unfold Lv; omega) (z.trans z9)
                  · exact b1 (by rw [z]; exact z9))).trans (hen1 a b1), fun k hk => by
                unfold adT
                by_cases e1 : k = 24 + 4 * n
                · rw [if_pos e1]; exact Or.inr hq87
                · rw [if_neg e1]
                  by_cases e2 : k = 25 + 4 * n
                  · rw [if_pos e2]; exact Or.inr z1
                  · rw [if_neg e2]
                    by_cases e3 : k = 26 + 4 * n
                    · rw [if_pos e3]; exact Or.inr z2
                    · rw [if_neg e3]
                      by_cases e4 : k = 27 + 4 * n
                      · rw [if_pos e4]; exact Or.inr z3
                      · rw [if_neg e4]
                        by_cases e5 : k = 2
                        · rw [if_pos e5]
                          rcases ht3 with ⟨z8, z9⟩ | z9
                          · exact Or.inl ⟨by unfold Lv; omega, by rw [z9, e5]⟩
                          · exact Or.inr z9
                        · rw [if_neg e5]; exact Or.inl ⟨by unfold Lv at *; omega, rfl⟩⟩
              have h_S := hC2.2.1.2
              rw [e15] at h_S
              refine j_pop hX dX5_task_103 rfl ?_
              refine j_aload_n hX dX5_task_104 rfl ?_
              refine j_callVv hX cv_X5_62 (e15 ▸ c_forget hC2 (by omega)) dX5_task_105 h_S rfl rfl (by exact ⟨Nat.le_of_ble_eq_true rfl, Nat.le_of_ble_eq_true rfl⟩) (by exact ⟨Nat.le_of_ble_eq_true rfl, Nat.le_of_ble_eq_true rfl⟩) (by exact Nat.le_of_ble_eq_true rfl) (fun h105 hp105 => ?_) rfl
              obtain ⟨hC3, hK3, hP3, hF3⟩ := hp105
              refine j_iload hX dX5_task_108 rfl ?_
              refine j_wide (k := 5) (n := 70) (by first | omega | exact Nat.le_of_ble_eq_true rfl) (by first | omega | exact Nat.le_of_ble_eq_true rfl) ?_
              exact j_iret hX hR dX5_task_110 ⟨by rw [tskR, if_pos ⟨by omega, by omega, by omega⟩, if_neg (by omega), if_neg (by omega)], _, by rw [tskT, if_pos ⟨by omega, by omega, by omega, by omega⟩, tskN, if_pos ⟨by omega, by omega, by omega, by omega⟩]; exact ⟨⟨hC3, hK3, hP3⟩, hFn.c hF3, e15⟩⟩
            · refine j_bipush hX dX5_task_61 (by decide) ?_
              refine j_wide (k := 5) (n := 70) (by first | omega | exact Nat.le_of_ble_eq_true rfl) (by first | omega | exact Nat.le_of_ble_eq_true rfl) ?_
              exact j_iret hX hR dX5_task_63 ⟨by rw [tskR, if_pos ⟨by omega, by omega, by omega⟩, if_pos (by omega)], AD, by rw [tskT, if_neg (by omega), tskN, if_neg (by omega)]; exact ⟨hL, Fn.of (Fc.rf h AD n m), rfl⟩⟩
          · refine j_bipush hX dX5_task_37 (by decide) ?_
            refine j_wide (k := 5) (n := 70) (by first | omega | exact Nat.le_of_ble_eq_true rfl) (by first | omega | exact Nat.le_of_ble_eq_true rfl) ?_
            exact j_iret hX hR dX5_task_39 ⟨by rw [tskR, if_neg (by omega)], AD, by rw [tskT, if_neg (by omega), tskN, if_neg (by omega)]; exact ⟨hL, Fn.of (Fc.rf h AD n m), rfl⟩⟩
      · refine j_bipush hX dX5_task_20 (by decide) ?_
        refine j_wide (k := 5) (n := 70) (by first | omega | exact Nat.le_of_ble_eq_true rfl) (by first | omega | exact Nat.le_of_ble_eq_true rfl) ?_
        exact j_iret hX hR dX5_task_22 ⟨by rw [tskR, if_neg (by omega)], AD, by rw [tskT, if_neg (by omega), tskN, if_neg (by omega)]; exact ⟨hL, Fn.of (Fc.rf h AD n m), rfl⟩⟩
