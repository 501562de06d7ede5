/-! LISTS: add; THE CLASS: what begins; interrupt -/
theorem LsAt.grown {G : Gt} {h : hF} {tl te k M q7 : Nat} {mc : Int} {gf f2 : Nat → Option Nat} {v : Nat} (h_L : h tl = some (.inr (1, LF mc te k))) (hq : (hup h tl (.inr (1, LF (mc + 1) te k))) q7 = none) (hM : k + 1 ≤ M ∧ (M = 10 ∨ M = 15 ∨ M = 22)) (hg : ∀ i : Nat, i < k + 1 → va_up gf k (some v) i = f2 i) {h' : hF} (hh : h' = hup (hup (hup (hup (hup h tl (.inr (1, LF (mc + 1) te k))) q7 (gQ G M gf)) tl (.inr (1, LF (mc + 1) q7 k))) q7 (gQ G M (va_up gf k (some v)))) tl (.inr (1, LF (mc + 1) q7 (k + 1)))) : LsAt G h' tl q7 (k + 1) f2 ∧ ((1 ≤ k ∧ q7 = te) ∨ h q7 = none) ∧ ∀ a : Nat, a ≠ tl → a ≠ q7 → h' a = h a := by
  have hqt : q7 ≠ tl := fun z => by subst z; rw [hup_eq] at hq; cases hq
  rw [hup_ne hqt] at hq
  subst hh
  refine ⟨⟨mc + 1, M, _, hup_eq _ _ _, Or.inr ⟨by omega, hM.1, hM.2, (hup_ne hqt).trans (hup_eq _ _ _), hg⟩⟩, Or.inr hq, fun a h1 h3 => ?_⟩
  rw [hup_ne h1, hup_ne h3, hup_ne h1, hup_ne h3, hup_ne h1]
set_option maxRecDepth 100000 in
set_option maxHeartbeats 4000000 in
theorem c_add {l : Launch} {G : Gt} {B : Nat} {h : hF} {tl te k : Nat} {f f2 : Nat → Option Nat} (hL : LsAt G h tl te k f) (hk : k < 22) {v ci : Nat} {fs : List Value} {C : String} {T : u_T} {N : Nat} (h_v : h v = some (.inr (ci, fs))) (hci : vwCl[ci]? = some (C, T, N)) (hC9 : C ∈ (["AnswerSums$Task", "AnswerSums$Part"] : List String)) (hel : 10 ≤ k → ∀ i : Nat, i < k → ∀ y : Nat, f i = some y → ∃ fs, h y = some (.inr (6, fs))) (hf2 : ∀ i : Nat, i < k → f2 i = f i) (hfk : f2 k = some v) : Ct l G B yJx4a65c_add_9ea2d cJx4a65c_add_9ea2d 2 (some .boolean) 6 1 22 [.ref tl, .ref v] h (fun v9 h' => v9 = .int (iZ 1) ∧ ∃ te2 : Nat, LsAt G h' tl te2 (k + 1) f2 ∧ ((1 ≤ k ∧ te2 = te) ∨ h te2 = none) ∧ ∀ a : Nat, a ≠ tl → a ≠ te2 → h' a = h a) := by
  refine Ct.of (by decide) (Nat.le_of_ble_eq_true rfl) ?_
  intro p e s m9 below meth c A hX hR hin
  obtain ⟨mc, cap, g, h_L, hq⟩ := hL
  have hvt : v ≠ tl := fun z => by subst z; rw [h_v] at h_L; cases h_L; have e9 : C = "java/util/ArrayList" := (congrArg Prod.fst (Option.some.inj hci)).symm; rw [e9] at hC9; exact absurd hC9 (by decide)
  rcases hq with ⟨rfl, rfl⟩ | ⟨hk1, hkc, hcc, h_E, hg⟩
  · refine j_aload_n hX dJx4a65c_add_9ea2d_0 rfl ?_
    refine j_dup hX dJx4a65c_add_9ea2d_1 rfl ?_
    refine j_get hX fl_Jx4a65c_63_1 dJx4a65c_add_9ea2d_2 h_L (by rfl) ?_
    refine j_iconst hX dJx4a65c_add_9ea2d_5 ?_
    refine j_iadd hX dJx4a65c_add_9ea2d_6 ?_
    refine j_putE hX fp_Jx4a65c_63_1 dJx4a65c_add_9ea2d_7 h_L rfl rfl (Nat.le_of_ble_eq_true rfl) (fs2 := (LF (mc + 1) G.2.2 0)) rfl ?_
    have h_L1 : hup h tl (.inr (1, LF (mc + 1) G.2.2 0)) tl = _ := hup_eq _ _ _
    have h_v1 : hup h tl (.inr (1, LF (mc + 1) G.2.2 0)) v = _ := (hup_ne hvt).trans h_v
    refine j_aload_n hX dJx4a65c_add_9ea2d_10 rfl ?_
    refine j_aload_n hX dJx4a65c_add_9ea2d_11 rfl ?_
    refine j_aload_n hX dJx4a65c_add_9ea2d_12 rfl ?_
    refine j_get hX fl_Jx4a65c_9_1 dJx4a65c_add_9ea2d_13 h_L1 (by rfl) ?_
    refine j_aload_n hX dJx4a65c_add_9ea2d_16 rfl ?_
    refine j_get hX fl_Jx4a65c_48_1 dJx4a65c_add_9ea2d_17 h_L1 (by rfl) ?_
    refine j_callVv hX cv_Jx4a65c_131 (c_add3D h_L1 h_v1 hci hC9) dJx4a65c_add_9ea2d_20 h_L1 rfl rfl (by exact ⟨Nat.le_of_ble_eq_true rfl, Nat.le_of_ble_eq_true rfl⟩) (by exact ⟨Nat.le_of_ble_eq_true rfl, Nat.le_of_ble_eq_true rfl⟩) (by exact Nat.le_of_ble_eq_true rfl) (fun h20 hp20 => ?_) rfl
    obtain ⟨q7, hq7, hh⟩ := hp20
    refine j_iconst hX dJx4a65c_add_9ea2d_23 ?_
    exact j_zret hX hR dJx4a65c_add_9ea2d_24 (by omega) ⟨rfl, q7, LsAt.grown (k := 0) (f2 := f2) h_L hq7 (by omega) (fun i hi => by have e9 : i = 0 := (by omega); subst e9; rw [va_up_self, hfk]) hh⟩
  · by_cases hr9 : k < cap
    · refine j_aload_n hX dJx4a65c_add_9ea2d_0 rfl ?_
      refine j_dup hX dJx4a65c_add_9ea2d_1 rfl ?_
      refine j_get hX fl_Jx4a65c_63_1 dJx4a65c_add_9ea2d_2 h_L (by rfl) ?_
      refine j_iconst hX dJx4a65c_add_9ea2d_5 ?_
      refine j_iadd hX dJx4a65c_add_9ea2d_6 ?_
      refine j_putE hX fp_Jx4a65c_63_1 dJx4a65c_add_9ea2d_7 h_L rfl rfl (Nat.le_of_ble_eq_true rfl) (fs2 := (LF (mc + 1) te k)) rfl ?_
      have h_L1 : hup h tl (.inr (1, LF (mc + 1) te k)) tl = _ := hup_eq _ _ _
      have h_v1 : hup h tl (.inr (1, LF (mc + 1) te k)) v = _ := (hup_ne hvt).trans h_v
      have h_E1 : hup h tl (.inr (1, LF (mc + 1) te k)) te = _ := (hup_ne (fun z => by subst z; rw [h_E] at h_L; cases h_L)).trans h_E
      refine j_aload_n hX dJx4a65c_add_9ea2d_10 rfl ?_
      refine j_aload_n hX dJx4a65c_add_9ea2d_11 rfl ?_
      refine j_aload_n hX dJx4a65c_add_9ea2d_12 rfl ?_
      refine j_get hX fl_Jx4a65c_9_1 dJx4a65c_add_9ea2d_13 h_L1 (by rfl) ?_
      refine j_aload_n hX dJx4a65c_add_9ea2d_16 rfl ?_
      refine j_get hX fl_Jx4a65c_48_1 dJx4a65c_add_9ea2d_17 h_L1 (by rfl) ?_
      refine j_callVv hX cv_Jx4a65c_131 (c_add3R h_L1 h_E1 hr9 (by omega) h_v1 hci hC9) dJx4a65c_add_9ea2d_20 h_L1 rfl rfl (by exact ⟨Nat.le_of_ble_eq_true rfl, Nat.le_of_ble_eq_true rfl⟩) (by exact ⟨Nat.le_of_ble_eq_true rfl, Nat.le_of_ble_eq_true rfl⟩) (by exact Nat.le_of_ble_eq_true rfl) (fun h20 hp20 => ?_) rfl
      subst hp20
      refine j_iconst hX dJx4a65c_add_9ea2d_23 ?_
      exact j_zret hX hR dJx4a65c_add_9ea2d_24 (by omega) ⟨rfl, te, ⟨mc + 1, cap, _, hup_eq _ _ _, Or.inr ⟨by omega, by omega, hcc, (hup_ne (fun z => by subst z; rw [h_E] at h_L; cases h_L)).trans (hup_eq _ _ _), fun i hi => by by_cases e : i = k; subst e; rw [va_up_self, hfk]; rw [va_up_ne _ _ e, hg i (by omega), hf2 i (by omega)]⟩⟩, Or.inl ⟨hk1, rfl⟩, fun a h1 h2 => by rw [hup_ne h1, hup_ne h2, hup_ne h1]⟩
    · have hkc2 : k = cap := by omega
      subst hkc2
      have hel1 : 10 ≤ k → ∀ i : Nat, i < k → ∀ y : Nat, g i = some y → ∃ fs, hup h tl (.inr (1, LF (mc + 1) te k)) y = some (.inr (6, fs)) := fun h10 i hi y hy => by
        obtain ⟨fs9, hfs9⟩ := hel h10 i hi y (by rw [← hg i hi]; exact hy)
        exact ⟨fs9, (hup_ne (fun z => by subst z; rw [hfs9] at h_L; cases h_L)).trans hfs9⟩
      rcases hcc with rfl | rfl | rfl
      · refine j_aload_n hX dJx4a65c_add_9ea2d_0 rfl ?_
        refine j_dup hX dJx4a65c_add_9ea2d_1 rfl ?_
        refine j_get hX fl_Jx4a65c_63_1 dJx4a65c_add_9ea2d_2 h_L (by rfl) ?_
        refine j_iconst hX dJx4a65c_add_9ea2d_5 ?_
        refine j_iadd hX dJx4a65c_add_9ea2d_6 ?_
        refine j_putE hX fp_Jx4a65c_63_1 dJx4a65c_add_9ea2d_7 h_L rfl rfl (Nat.le_of_ble_eq_true rfl) (fs2 := (LF (mc + 1) te 10)) rfl ?_
        have h_L1 : hup h tl (.inr (1, LF (mc + 1) te 10)) tl = _ := hup_eq _ _ _
        have h_v1 : hup h tl (.inr (1, LF (mc + 1) te 10)) v = _ := (hup_ne hvt).trans h_v
        have h_E1 : hup h tl (.inr (1, LF (mc + 1) te 10)) te = _ := (hup_ne (fun z => by subst z; rw [h_E] at h_L; cases h_L)).trans h_E
        refine j_aload_n hX dJx4a65c_add_9ea2d_10 rfl ?_
        refine j_aload_n hX dJx4a65c_add_9ea2d_11 rfl ?_
        refine j_aload_n hX dJx4a65c_add_9ea2d_12 rfl ?_
        refine j_get hX fl_Jx4a65c_9_1 dJx4a65c_add_9ea2d_13 h_L1 (by rfl) ?_
        refine j_aload_n hX dJx4a65c_add_9ea2d_16 rfl ?_
        refine j_get hX fl_Jx4a65c_48_1 dJx4a65c_add_9ea2d_17 h_L1 (by rfl) ?_
        refine j_callVv hX cv_Jx4a65c_131 (c_add310 h_L1 h_E1 (hel1 (by omega)) h_v1 hci hC9) dJx4a65c_add_9ea2d_20 h_L1 rfl rfl (by exact ⟨Nat.le_of_ble_eq_true rfl, Nat.le_of_ble_eq_true rfl⟩) (by exact ⟨Nat.le_of_ble_eq_true rfl, Nat.le_of_ble_eq_true rfl⟩) (by exact Nat.le_of_ble_eq_true rfl) (fun h20 hp20 => ?_) rfl
        obtain ⟨q7, hq7, hh⟩ := hp20
        refine j_iconst hX dJx4a65c_add_9ea2d_23 ?_
        exact j_zret hX hR dJx4a65c_add_9ea2d_24 (by omega) ⟨rfl, q7, LsAt.grown (k := 10) (f2 := f2) h_L hq7 (by omega) (fun i hi => by by_cases e : i = 10; subst e; rw [va_up_self, hfk]; rw [va_up_ne _ _ e]; show (if 0 ≤ i ∧ i < 0 + 10 then g (0 + (i - 0)) else none) = f2 i; rw [if_pos (by omega), show 0 + (i - 0) = i by omega, hg i (by omega), hf2 i (by omega)]) hh⟩
      · refine j_aload_n hX dJx4a65c_add_9ea2d_0 rfl ?_
        refine j_dup hX dJx4a65c_add_9ea2d_1 rfl ?_
        refine j_get hX fl_Jx4a65c_63_1 dJx4a65c_add_9ea2d_2 h_L (by rfl) ?_
        refine j_iconst hX dJx4a65c_add_9ea2d_5 ?_
        refine j_iadd hX dJx4a65c_add_9ea2d_6 ?_
        refine j_putE hX fp_Jx4a65c_63_1 dJx4a65c_add_9ea2d_7 h_L rfl rfl (Nat.le_of_ble_eq_true rfl) (fs2 := (LF (mc + 1) te 15)) rfl ?_
        have h_L1 : hup h tl (.inr (1, LF (mc + 1) te 15)) tl = _ := hup_eq _ _ _
        have h_v1 : hup h tl (.inr (1, LF (mc + 1) te 15)) v = _ := (hup_ne hvt).trans h_v
        have h_E1 : hup h tl (.inr (1, LF (mc + 1) te 15)) te = _ := (hup_ne (fun z => by subst z; rw [h_E] at h_L; cases h_L)).trans h_E
        refine j_aload_n hX dJx4a65c_add_9ea2d_10 rfl ?_
        refine j_aload_n hX dJx4a65c_add_9ea2d_11 rfl ?_
        refine j_aload_n hX dJx4a65c_add_9ea2d_12 rfl ?_
        refine j_get hX fl_Jx4a65c_9_1 dJx4a65c_add_9ea2d_13 h_L1 (by rfl) ?_
        refine j_aload_n hX dJx4a65c_add_9ea2d_16 rfl ?_
        refine j_get hX fl_Jx4a65c_48_1 dJx4a65c_add_9ea2d_17 h_L1 (by rfl) ?_
        refine j_callVv hX cv_Jx4a65c_131 (c_add315 h_L1 h_E1 (hel1 (by omega)) h_v1 hci hC9) dJx4a65c_add_9ea2d_20 h_L1 rfl rfl (by exact ⟨Nat.le_of_ble_eq_true rfl, Nat.le_of_ble_eq_true rfl⟩) (by exact ⟨Nat.le_of_ble_eq_true rfl, Nat.le_of_ble_eq_true rfl⟩) (by exact Nat.le_of_ble_eq_true rfl) (fun h20 hp20 => ?_) rfl
        obtain ⟨q7, hq7, hh⟩ := hp20
        refine j_iconst hX dJx4a65c_add_9ea2d_23 ?_
        exact j_zret hX hR dJx4a65c_add_9ea2d_24 (by omega) ⟨rfl, q7, LsAt.grown (k := 15) (f2 := f2) h_L hq7 (by omega) (fun i hi => by by_cases e : i = 15; subst e; rw [va_up_self, hfk]; rw [va_up_ne _ _ e]; show (if 0 ≤ i ∧ i < 0 + 15 then g (0 + (i - 0)) else none) = f2 i; rw [if_pos (by omega), show 0 + (i - 0) = i by omega, hg i (by omega), hf2 i (by omega)]) hh⟩
      · omega
set_option maxRecDepth 100000 in
set_option maxHeartbeats 4000000 in
theorem c_Finit {l : Launch} {G : Gt} {B : Nat} {h : hF} {q : Nat} (h_F : h q = some (.inr (3, FF4 0 0 0 0))) : Cv l G B yX1_init cX1_init 1 1 0 0 [.ref q] h (fun h' => h' = hup h q (.inr (3, FF4 0 (-1) 0 0))) := by
  refine Cv.of (by decide) (Nat.le_of_ble_eq_true rfl) ?_
  intro p e s m9 below meth c A hX hR hin
  refine j_aload_n hX dX1_init_0 rfl ?_
  refine j_objInit hX oi_X1_3 oi_m oi_c dX1_init_1 (by decide) ?_
  refine j_aload_n hX dX1_init_4 rfl ?_
  refine j_ldc2 hX k_X1_9 (z := -1) (by decide) dX1_init_5 ?_
  refine j_putE hX fp_X1_11_3 dX1_init_8 h_F rfl rfl (Nat.le_of_ble_eq_true rfl) (fs2 := (FF4 0 (-1) 0 0)) rfl ?_
  exact j_vret hX hR dX1_init_11 rfl
set_option maxRecDepth 100000 in
set_option maxHeartbeats 4000000 in
theorem c_Pinit4 {l : Launch} {G : Gt} {B : Nat} {h : hF} {b : Nat} {si ow9 pe : Int} (h_F : h b = some (.inr (4, [.int (iZ 0), .long (lZ 0), .long (lZ 0), .long (lZ 0), .long (lZ 0), .long (lZ 0), .int (iZ 0)]))) : Cv l G B yX2_init cX2_init 6 1 0 0 [.ref b, .int (iZ si), .long (lZ ow9), .long (lZ pe)] h (fun h' => h' = hup h b (.inr (4, [.int (iZ si), .long (lZ pe), .long (lZ ow9), .long (lZ 0), .long (lZ 0), .long (lZ 1), .int (iZ 1)]))) := by
  refine Cv.of (by decide) (Nat.le_of_ble_eq_true rfl) ?_
  intro p e s m9 below meth c A hX hR hin
  refine j_aload_n hX dX2_init_0 rfl ?_
  refine j_objInit hX oi_X2_3 oi_m oi_c dX2_init_1 (by decide) ?_
  refine j_aload_n hX dX2_init_4 rfl ?_
  refine j_lconst1 hX dX2_init_5 ?_
  refine j_putE hX fp_X2_9_4 dX2_init_6 h_F rfl rfl (Nat.le_of_ble_eq_true rfl) (fs2 := ([.int (iZ 0), .long (lZ 0), .long (lZ 0), .long (lZ 0), .long (lZ 0), .long (lZ 1), .int (iZ 0)])) rfl ?_
  have h_F : (hup h b (.inr (4, [.int (iZ 0), .long (lZ 0), .long (lZ 0), .long (lZ 0), .long (lZ 0), .long (lZ 1), .int (iZ 0)]))) b = _ := hup_eq _ _ _
  refine j_aload_n hX dX2_init_9 rfl ?_
  refine j_iconst hX dX2_init_10 ?_
  refine j_putE hX fp_X2_15_4 dX2_init_11 h_F rfl rfl (Nat.le_of_ble_eq_true rfl) (fs2 := ([.int (iZ 0), .long (lZ 0), .long (lZ 0), .long (lZ 0), .long (lZ 0), .long (lZ 1), .int (iZ 1)])) rfl ?_
  have h_F : (hup (hup h b (.inr (4, [.int (iZ 0), .long (lZ 0), .long (lZ 0), .long (lZ 0), .long (lZ 0), .long (lZ 1), .int (iZ 0)]))) b (.inr (4, [.int (iZ 0), .long (lZ 0), .long (lZ 0), .long (lZ 0), .long (lZ 0), .long (lZ 1), .int (iZ 1)]))) b = _ := hup_eq _ _ _
  refine j_aload_n hX dX2_init_14 rfl ?_
  refine j_iload_n hX dX2_init_15 rfl ?_
  refine j_putFE hX ff_X2_19_4 hin dX2_init_16 h_F rfl rfl (Nat.le_of_ble_eq_true rfl) (fs2 := ([.int (iZ si), .long (lZ 0), .long (lZ 0), .long (lZ 0), .long (lZ 0), .long (lZ 1), .int (iZ 1)])) rfl ?_
  have h_F : (hup (hup (hup h b (.inr (4, [.int (iZ 0), .long (lZ 0), .long (lZ 0), .long (lZ 0), .long (lZ 0), .long (lZ 1), .int (iZ 0)]))) b (.inr (4, [.int (iZ 0), .long (lZ 0), .long (lZ 0), .long (lZ 0), .long (lZ 0), .long (lZ 1), .int (iZ 1)]))) b (.inr (4, [.int (iZ si), .long (lZ 0), .long (lZ 0), .long (lZ 0), .long (lZ 0), .long (lZ 1), .int (iZ 1)]))) b = _ := hup_eq _ _ _
  refine j_aload_n hX dX2_init_19 rfl ?_
  refine j_lload_n hX dX2_init_20 rfl ?_
  refine j_putE hX fp_X2_22_4 dX2_init_21 h_F rfl rfl (Nat.le_of_ble_eq_true rfl) (fs2 := ([.int (iZ si), .long (lZ 0), .long (lZ ow9), .long (lZ 0), .long (lZ 0), .long (lZ 1), .int (iZ 1)])) rfl ?_
  have h_F : (hup (hup (hup (hup h b (.inr (4, [.int (iZ 0), .long (lZ 0), .long (lZ 0), .long (lZ 0), .long (lZ 0), .long (lZ 1), .int (iZ 0)]))) b (.inr (4, [.int (iZ 0), .long (lZ 0), .long (lZ 0), .long (lZ 0), .long (lZ 0), .long (lZ 1), .int (iZ 1)]))) b (.inr (4, [.int (iZ si), .long (lZ 0), .long (lZ 0), .long (lZ 0), .long (lZ 0), .long (lZ 1), .int (iZ 1)]))) b (.inr (4, [.int (iZ si), .long (lZ 0), .long (lZ ow9), .long (lZ 0), .long (lZ 0), .long (lZ 1), .int (iZ 1)]))) b = _ := hup_eq _ _ _
  refine j_aload_n hX dX2_init_24 rfl ?_
  refine j_lload hX dX2_init_25 rfl ?_
  refine j_putFE hX ff_X2_25_4 hin dX2_init_27 h_F rfl rfl (Nat.le_of_ble_eq_true rfl) (fs2 := ([.int (iZ si), .long (lZ pe), .long (lZ ow9), .long (lZ 0), .long (lZ 0), .long (lZ 1), .int (iZ 1)])) rfl ?_
  have h_F : (hup (hup (hup (hup (hup h b (.inr (4, [.int (iZ 0), .long (lZ 0), .long (lZ 0), .long (lZ 0), .long (lZ 0), .long (lZ 1), .int (iZ 0)]))) b (.inr (4, [.int (iZ 0), .long (lZ 0), .long (lZ 0), .long (lZ 0), .long (lZ 0), .long (lZ 1), .int (iZ 1)]))) b (.inr (4, [.int (iZ si), .long (lZ 0), .long (lZ 0), .long (lZ 0), .long (lZ 0), .long (lZ 1), .int (iZ 1)]))) b (.inr (4, [.int (iZ si), .long (lZ 0), .long (lZ ow9), .long (lZ 0), .long (lZ 0), .long (lZ 1), .int (iZ 1)]))) b (.inr (4, [.int (iZ si), .long (lZ pe), .long (lZ ow9), .long (lZ 0), .long (lZ 0), .long (lZ 1), .int (iZ 1)]))) b = _ := hup_eq _ _ _
  exact j_vret hX hR dX2_init_30 (by rw [hup_hup, hup_hup, hup_hup, hup_hup])
set_option maxRecDepth 100000 in
set_option maxHeartbeats 4000000 in
theorem c_Pinit6 {l : Launch} {G : Gt} {B : Nat} {h : hF} {b : Nat} {si ow9 pe : Int} (h_F : h b = some (.inr (6, [.int (iZ 0), .long (lZ 0), .long (lZ 0), .long (lZ 0), .long (lZ 0), .long (lZ 0), .int (iZ 0), .int (iZ 0), .null, .null, .null, .int (iZ 0), .long (lZ 0)]))) : Cv l G B yX2_init cX2_init 6 1 0 0 [.ref b, .int (iZ si), .long (lZ ow9), .long (lZ pe)] h (fun h' => h' = hup h b (.inr (6, [.int (iZ si), .long (lZ pe), .long (lZ ow9), .long (lZ 0), .long (lZ 0), .long (lZ 1), .int (iZ 1), .int (iZ 0), .null, .null, .null, .int (iZ 0), .long (lZ 0)]))) := by
  refine Cv.of (by decide) (Nat.le_of_ble_eq_true rfl) ?_
  intro p e s m9 below meth c A hX hR hin
  refine j_aload_n hX dX2_init_0 rfl ?_
  refine j_objInit hX oi_X2_3 oi_m oi_c dX2_init_1 (by decide) ?_
  refine j_aload_n hX dX2_init_4 rfl ?_
  refine j_lconst1 hX dX2_init_5 ?_
  refine j_putE hX fp_X2_9_6 dX2_init_6 h_F rfl rfl (Nat.le_of_ble_eq_true rfl) (fs2 := ([.int (iZ 0), .long (lZ 0), .long (lZ 0), .long (lZ 0), .long (lZ 0), .long (lZ 1), .int (iZ 0), .int (iZ 0), .null, .null, .null, .int (iZ 0), .long (lZ 0)])) rfl ?_
  have h_F : (hup h b (.inr (6, [.int (iZ 0), .long (lZ 0), .long (lZ 0), .long (lZ 0), .long (lZ 0), .long (lZ 1), .int (iZ 0), .int (iZ 0), .null, .null, .null, .int (iZ 0), .long (lZ 0)]))) b = _ := hup_eq _ _ _
  refine j_aload_n hX dX2_init_9 rfl ?_
  refine j_iconst hX dX2_init_10 ?_
  refine j_putE hX fp_X2_15_6 dX2_init_11 h_F rfl rfl (Nat.le_of_ble_eq_true rfl) (fs2 := ([.int (iZ 0), .long (lZ 0), .long (lZ 0), .long (lZ 0), .long (lZ 0), .long (lZ 1), .int (iZ 1), .int (iZ 0), .null, .null, .null, .int (iZ 0), .long (lZ 0)])) rfl ?_
  have h_F : (hup (hup h b (.inr (6, [.int (iZ 0), .long (lZ 0), .long (lZ 0), .long (lZ 0), .long (lZ 0), .long (lZ 1), .int (iZ 0), .int (iZ 0), .null, .null, .null, .int (iZ 0), .long (lZ 0)]))) b (.inr (6, [.int (iZ 0), .long (lZ 0), .long (lZ 0), .long (lZ 0), .long (lZ 0), .long (lZ 1), .int (iZ 1), .int (iZ 0), .null, .null, .null, .int (iZ 0), .long (lZ 0)]))) b = _ := hup_eq _ _ _
  refine j_aload_n hX dX2_init_14 rfl ?_
  refine j_iload_n hX dX2_init_15 rfl ?_
  refine j_putFE hX ff_X2_19_6 hin dX2_init_16 h_F rfl rfl (Nat.le_of_ble_eq_true rfl) (fs2 := ([.int (iZ si), .long (lZ 0), .long (lZ 0), .long (lZ 0), .long (lZ 0), .long (lZ 1), .int (iZ 1), .int (iZ 0), .null, .null, .null, .int (iZ 0), .long (lZ 0)])) rfl ?_
  have h_F : (hup (hup (hup h b (.inr (6, [.int (iZ 0), .long (lZ 0), .long (lZ 0), .long (lZ 0), .long (lZ 0), .long (lZ 1), .int (iZ 0), .int (iZ 0), .null, .null, .null, .int (iZ 0), .long (lZ 0)]))) b (.inr (6, [.int (iZ 0), .long (lZ 0), .long (lZ 0), .long (lZ 0), .long (lZ 0), .long (lZ 1), .int (iZ 1), .int (iZ 0), .null, .null, .null, .int (iZ 0), .long (lZ 0)]))) b (.inr (6, [.int (iZ si), .long (lZ 0), .long (lZ 0), .long (lZ 0), .long (lZ 0), .long (lZ 1), .int (iZ 1), .int (iZ 0), .null, .null, .null, .int (iZ 0), .long (lZ 0)]))) b = _ := hup_eq _ _ _
  refine j_aload_n hX dX2_init_19 rfl ?_
  refine j_lload_n hX dX2_init_20 rfl ?_
  refine j_putE hX fp_X2_22_6 dX2_init_21 h_F rfl rfl (Nat.le_of_ble_eq_true rfl) (fs2 := ([.int (iZ si), .long (lZ 0), .long (lZ ow9), .long (lZ 0), .long (lZ 0), .long (lZ 1), .int (iZ 1), .int (iZ 0), .null, .null, .null, .int (iZ 0), .long (lZ 0)])) rfl ?_
  have h_F : (hup (hup (hup (hup h b (.inr (6, [.int (iZ 0), .long (lZ 0), .long (lZ 0), .long (lZ 0), .long (lZ 0), .long (lZ 1), .int (iZ 0), .int (iZ 0), .null, .null, .null, .int (iZ 0), .long (lZ 0)]))) b (.inr (6, [.int (iZ 0), .long (lZ 0), .long (lZ 0), .long (lZ 0), .long (lZ 0), .long (lZ 1), .int (iZ 1), .int (iZ 0), .null, .null, .null, .int (iZ 0), .long (lZ 0)]))) b (.inr (6, [.int (iZ si), .long (lZ 0), .long (lZ 0), .long (lZ 0), .long (lZ 0), .long (lZ 1), .int (iZ 1), .int (iZ 0), .null, .null, .null, .int (iZ 0), .long (lZ 0)]))) b (.inr (6, [.int (iZ si), .long (lZ 0), .long (lZ ow9), .long (lZ 0), .long (lZ 0), .long (lZ 1), .int (iZ 1), .int (iZ 0), .null, .null, .null, .int (iZ 0), .long (lZ 0)]))) b = _ := hup_eq _ _ _
  refine j_aload_n hX dX2_init_24 rfl ?_
  refine j_lload hX dX2_init_25 rfl ?_
  refine j_putFE hX ff_X2_25_6 hin dX2_init_27 h_F rfl rfl (Nat.le_of_ble_eq_true rfl) (fs2 := ([.int (iZ si), .long (lZ pe), .long (lZ ow9), .long (lZ 0), .long (lZ 0), .long (lZ 1), .int (iZ 1), .int (iZ 0), .null, .null, .null, .int (iZ 0), .long (lZ 0)])) rfl ?_
  have h_F : (hup (hup (hup (hup (hup h b (.inr (6, [.int (iZ 0), .long (lZ 0), .long (lZ 0), .long (lZ 0), .long (lZ 0), .long (lZ 1), .int (iZ 0), .int (iZ 0), .null, .null, .null, .int (iZ 0), .long (lZ 0)]))) b (.inr (6, [.int (iZ 0), .long (lZ 0), .long (lZ 0), .long (lZ 0), .long (lZ 0), .long (lZ 1), .int (iZ 1), .int (iZ 0), .null, .null, .null, .int (iZ 0), .long (lZ 0)]))) b (.inr (6, [.int (iZ si), .long (lZ 0), .long (lZ 0), .long (lZ 0), .long (lZ 0), .long (lZ 1), .int (iZ 1), .int (iZ 0), .null, .null, .null, .int (iZ 0), .long (lZ 0)]))) b (.inr (6, [.int (iZ si), .long (lZ 0), .long (lZ ow9), .long (lZ 0), .long (lZ 0), .long (lZ 1), .int (iZ 1), .int (iZ 0), .null, .null, .null, .int (iZ 0), .long (lZ 0)]))) b (.inr (6, [.int (iZ si), .long (lZ pe), .long (lZ ow9), .long (lZ 0), .long (lZ 0), .long (lZ 1), .int (iZ 1), .int (iZ 0), .null, .null, .null, .int (iZ 0), .long (lZ 0)]))) b = _ := hup_eq _ _ _
  exact j_vret hX hR dX2_init_30 (by rw [hup_hup, hup_hup, hup_hup, hup_hup])
set_option maxRecDepth 100000 in
set_option maxHeartbeats 4000000 in
theorem c_Tinit {l : Launch} {G : Gt} {B : Nat} {h : hF} {b : Nat} {si ow9 pe ra : Int} (h_F : h b = some (.inr (6, [.int (iZ 0), .long (lZ 0), .long (lZ 0), .long (lZ 0), .long (lZ 0), .long (lZ 0), .int (iZ 0), .int (iZ 0), .null, .null, .null, .int (iZ 0), .long (lZ 0)]))) : Cv l G B yX4_init cX4_init 7 2 3 24 [.ref b, .int (iZ si), .long (lZ ow9), .long (lZ pe), .int (iZ ra)] h (fun h' => ∃ q11 q19 q25 : Nat, (h q11 = none ∧ h q19 = none ∧ h q25 = none ∧ q11 ≠ q19 ∧ q11 ≠ q25 ∧ q19 ≠ q25) ∧ h' b = some (.inr (6, [.int (iZ si), .long (lZ pe), .long (lZ ow9), .long (lZ 0), .long (lZ 0), .long (lZ 1), .int (iZ 1), .int (iZ ra), .ref q11, .ref q19, .ref q25, .int (iZ 0), .long (lZ (-1))])) ∧ h' q11 = some (gI G 10 (fun _ => 0)) ∧ h' q19 = some (gJ G 10 (fun _ => 0)) ∧ h' q25 = some (.inr (3, FF4 0 (-1) 0 0)) ∧ ∀ a : Nat, a ≠ b → a ≠ q11 → a ≠ q19 → a ≠ q25 → h' a = h a) := by
  refine Cv.of (by decide) (Nat.le_of_ble_eq_true rfl) ?_
  intro p e s m9 below meth c A hX hR hin
  refine j_aload_n hX dX4_init_0 rfl ?_
  refine j_iload_n hX dX4_init_1 rfl ?_
  refine j_lload_n hX dX4_init_2 rfl ?_
  refine j_lload hX dX4_init_3 rfl ?_
  refine j_callI hX ci_X4_3 (c_Pinit6 (si := si) (ow9 := ow9) (pe := pe) h_F) dX4_init_5 rfl (by exact ⟨Nat.le_of_ble_eq_true rfl, Nat.le_of_ble_eq_true rfl⟩) (by exact ⟨Nat.le_of_ble_eq_true rfl, Nat.le_of_ble_eq_true rfl⟩) (by exact Nat.le_of_ble_eq_true rfl) (fun h5 hp5 => ?_) rfl
  subst hp5
  have h_F : (hup h b (.inr (6, [.int (iZ si), .long (lZ pe), .long (lZ ow9), .long (lZ 0), .long (lZ 0), .long (lZ 1), .int (iZ 1), .int (iZ 0), .null, .null, .null, .int (iZ 0), .long (lZ 0)]))) b = _ := hup_eq _ _ _
  refine j_aload_n hX dX4_init_8 rfl ?_
  refine j_bipush hX dX4_init_9 (by decide) ?_
  refine j_newaI hX (N := 10) ac_int dX4_init_11 (by decide) (by exact ⟨Nat.le_of_ble_eq_true rfl, Nat.le_of_ble_eq_true rfl⟩) (fun q11 hq11 => ?_)
  have n11 : b ≠ q11 := fun z => by subst z; rw [hq11] at h_F; cases h_F
  have h_F : (hup (hup h b (.inr (6, [.int (iZ si), .long (lZ pe), .long (lZ ow9), .long (lZ 0), .long (lZ 0), .long (lZ 1), .int (iZ 1), .int (iZ 0), .null, .null, .null, .int (iZ 0), .long (lZ 0)]))) q11 (gI G 10 (fun _ => 0))) b = _ := (hup_ne n11).trans h_F
  refine j_putFE hX ff_X4_9_6 hin dX4_init_13 h_F rfl rfl (Nat.le_of_ble_eq_true rfl) (fs2 := ([.int (iZ si), .long (lZ pe), .long (lZ ow9), .long (lZ 0), .long (lZ 0), .long (lZ 1), .int (iZ 1), .int (iZ 0), .ref q11, .null, .null, .int (iZ 0), .long (lZ 0)])) rfl ?_
  have h_F : (hup (hup (hup h b (.inr (6, [.int (iZ si), .long (lZ pe), .long (lZ ow9), .long (lZ 0), .long (lZ 0), .long (lZ 1), .int (iZ 1), .int (iZ 0), .null, .null, .null, .int (iZ 0), .long (lZ 0)]))) q11 (gI G 10 (fun _ => 0))) b (.inr (6, [.int (iZ si), .long (lZ pe), .long (lZ ow9), .long (lZ 0), .long (lZ 0), .long (lZ 1), .int (iZ 1), .int (iZ 0), .ref q11, .null, .null, .int (iZ 0), .long (lZ 0)]))) b = _ := hup_eq _ _ _
  have z11 : (hup (hup (hup h b (.inr (6, [.int (iZ si), .long (lZ pe), .long (lZ ow9), .long (lZ 0), .long (lZ 0), .long (lZ 1), .int (iZ 1), .int (iZ 0), .null, .null, .null, .int (iZ 0), .long (lZ 0)]))) q11 (gI G 10 (fun _ => 0))) b (.inr (6, [.int (iZ si), .long (lZ pe), .long (lZ ow9), .long (lZ 0), .long (lZ 0), .long (lZ 1), .int (iZ 1), .int (iZ 0), .ref q11, .null, .null, .int (iZ 0), .long (lZ 0)]))) q11 = some (gI G 10 (fun _ => 0)) := (hup_ne n11.symm).trans (hup_eq _ _ _)
  refine j_aload_n hX dX4_init_16 rfl ?_
  refine j_bipush hX dX4_init_17 (by decide) ?_
  refine j_newaJ hX (N := 10) ac_long dX4_init_19 (by decide) (by exact ⟨Nat.le_of_ble_eq_true rfl, Nat.le_of_ble_eq_true rfl⟩) (fun q19 hq19 => ?_)
  have n19 : b ≠ q19 := fun z => by subst z; rw [hq19] at h_F; cases h_F
  have m19 : q11 ≠ q19 := fun z => by subst z; rw [hq19] at z11; cases z11
  have h_F : (hup (hup (hup (hup h b (.inr (6, [.int (iZ si), .long (lZ pe), .long (lZ ow9), .long (lZ 0), .long (lZ 0), .long (lZ 1), .int (iZ 1), .int (iZ 0), .null, .null, .null, .int (iZ 0), .long (lZ 0)]))) q11 (gI G 10 (fun _ => 0))) b (.inr (6, [.int (iZ si), .long (lZ pe), .long (lZ ow9), .long (lZ 0), .long (lZ 0), .long (lZ 1), .int (iZ 1), .int (iZ 0), .ref q11, .null, .null, .int (iZ 0), .long (lZ 0)]))) q19 (gJ G 10 (fun _ => 0))) b = _ := (hup_ne n19).trans h_F
  refine j_putFE hX ff_X4_15_6 hin dX4_init_21 h_F rfl rfl (Nat.le_of_ble_eq_true rfl) (fs2 := ([.int (iZ si), .long (lZ pe), .long (lZ ow9), .long (lZ 0), .long (lZ 0), .long (lZ 1), .int (iZ 1), .int (iZ 0), .ref q11, .ref q19, .null, .int (iZ 0), .long (lZ 0)])) rfl ?_
  have h_F : (hup (hup (hup (hup (hup h b (.inr (6, [.int (iZ si), .long (lZ pe), .long (lZ ow9), .long (lZ 0), .long (lZ 0), .long (lZ 1), .int (iZ 1), .int (iZ 0), .null, .null, .null, .int (iZ 0), .long (lZ 0)]))) q11 (gI G 10 (fun _ => 0))) b (.inr (6, [.int (iZ si), .long (lZ pe), .long (lZ ow9), .long (lZ 0), .long (lZ 0), .long (lZ 1), .int (iZ 1), .int (iZ 0), .ref q11, .null, .null, .int (iZ 0), .long (lZ 0)]))) q19 (gJ G 10 (fun _ => 0))) b (.inr (6, [.int (iZ si), .long (lZ pe), .long (lZ ow9), .long (lZ 0), .long (lZ 0), .long (lZ 1), .int (iZ 1), .int (iZ 0), .ref q11, .ref q19, .null, .int (iZ 0), .long (lZ 0)]))) b = _ := hup_eq _ _ _
  have z11 : (hup (hup (hup (hup (hup h b (.inr (6, [.int (iZ si), .long (lZ pe), .long (lZ ow9), .long (lZ 0), .long (lZ 0), .long (lZ 1), .int (iZ 1), .int (iZ 0), .null, .null, .null, .int (iZ 0), .long (lZ 0)]))) q11 (gI G 10 (fun _ => 0))) b (.inr (6, [.int (iZ si), .long (lZ pe), .long (lZ ow9), .long (lZ 0), .long (lZ 0), .long (lZ 1), .int (iZ 1), .int (iZ 0), .ref q11, .null, .null, .int (iZ 0), .long (lZ 0)]))) q19 (gJ G 10 (fun _ => 0))) b (.inr (6, [.int (iZ si), .long (lZ pe), .long (lZ ow9), .long (lZ 0), .long (lZ 0), .long (lZ 1), .int (iZ 1), .int (iZ 0), .ref q11, .ref q19, .null, .int (iZ 0), .long (lZ 0)]))) q11 = some (gI G 10 (fun _ => 0)) := (hup_ne n11.symm).trans ((hup_ne m19).trans z11)
  have z19 : (hup (hup (hup (hup (hup h b (.inr (6, [.int (iZ si), .long (lZ pe), .long (lZ ow9), .long (lZ 0), .long (lZ 0), .long (lZ 1), .int (iZ 1), .int (iZ 0), .null, .null, .null, .int (iZ 0), .long (lZ 0)]))) q11 (gI G 10 (fun _ => 0))) b (.inr (6, [.int (iZ si), .long (lZ pe), .long (lZ ow9), .long (lZ 0), .long (lZ 0), .long (lZ 1), .int (iZ 1), .int (iZ 0), .ref q11, .null, .null, .int (iZ 0), .long (lZ 0)]))) q19 (gJ G 10 (fun _ => 0))) b (.inr (6, [.int (iZ si), .long (lZ pe), .long (lZ ow9), .long (lZ 0), .long (lZ 0), .long (lZ 1), .int (iZ 1), .int (iZ 0), .ref q11, .ref q19, .null, .int (iZ 0), .long (lZ 0)]))) q19 = some (gJ G 10 (fun _ => 0)) := (hup_ne n19.symm).trans (hup_eq _ _ _)
  refine j_aload_n hX dX4_init_24 rfl ?_
  refine j_new hX nw_X4_19 dX4_init_25 (by exact ⟨Nat.le_of_ble_eq_true rfl, Nat.le_of_ble_eq_true rfl⟩) (fun q25 hq25 => ?_)
  have n25 : b ≠ q25 := fun z => by subst z; rw [hq25] at h_F; cases h_F
  have k11 : q11 ≠ q25 := fun z => by subst z; rw [hq25] at z11; cases z11
  have k19 : q19 ≠ q25 := fun z => by subst z; rw [hq25] at z19; cases z19
  have h_Q : (hup (hup (hup (hup (hup (hup h b (.inr (6, [.int (iZ si), .long (lZ pe), .long (lZ ow9), .long (lZ 0), .long (lZ 0), .long (lZ 1), .int (iZ 1), .int (iZ 0), .null, .null, .null, .int (iZ 0), .long (lZ 0)]))) q11 (gI G 10 (fun _ => 0))) b (.inr (6, [.int (iZ si), .long (lZ pe), .long (lZ ow9), .long (lZ 0), .long (lZ 0), .long (lZ 1), .int (iZ 1), .int (iZ 0), .ref q11, .null, .null, .int (iZ 0), .long (lZ 0)]))) q19 (gJ G 10 (fun _ => 0))) b (.inr (6, [.int (iZ si), .long (lZ pe), .long (lZ ow9), .long (lZ 0), .long (lZ 0), .long (lZ 1), .int (iZ 1), .int (iZ 0), .ref q11, .ref q19, .null, .int (iZ 0), .long (lZ 0)]))) q25 (.inr (3, FF4 0 0 0 0))) q25 = _ := hup_eq _ _ _
  refine j_dup hX dX4_init_28 rfl ?_
  refine j_callIN hX cn_X4_21 ⟨rfl, q_117⟩ (c_Finit h_Q) dX4_init_29 rfl (by exact ⟨Nat.le_of_ble_eq_true rfl, Nat.le_of_ble_eq_true rfl⟩) (by exact ⟨Nat.le_of_ble_eq_true rfl, Nat.le_of_ble_eq_true rfl⟩) (by exact Nat.le_of_ble_eq_true rfl) (fun h29 hp29 => ?_) rfl
  subst hp29
  have h_F : (hup (hup (hup (hup (hup (hup (hup h b (.inr (6, [.int (iZ si), .long (lZ pe), .long (lZ ow9), .long (lZ 0), .long (lZ 0), .long (lZ 1), .int (iZ 1), .int (iZ 0), .null, .null, .null, .int (iZ 0), .long (lZ 0)]))) q11 (gI G 10 (fun _ => 0))) b (.inr (6, [.int (iZ si), .long (lZ pe), .long (lZ ow9), .long (lZ 0), .long (lZ 0), .long (lZ 1), .int (iZ 1), .int (iZ 0), .ref q11, .null, .null, .int (iZ 0), .long (lZ 0)]))) q19 (gJ G 10 (fun _ => 0))) b (.inr (6, [.int (iZ si), .long (lZ pe), .long (lZ ow9), .long (lZ 0), .long (lZ 0), .long (lZ 1), .int (iZ 1), .int (iZ 0), .ref q11, .ref q19, .null, .int (iZ 0), .long (lZ 0)]))) q25 (.inr (3, FF4 0 0 0 0))) q25 (.inr (3, FF4 0 (-1) 0 0))) b = _ := (hup_ne n25).trans ((hup_ne n25).trans h_F)
  refine j_putFE hX ff_X4_24_6 hin dX4_init_32 h_F rfl rfl (Nat.le_of_ble_eq_true rfl) (fs2 := ([.int (iZ si), .long (lZ pe), .long (lZ ow9), .long (lZ 0), .long (lZ 0), .long (lZ 1), .int (iZ 1), .int (iZ 0), .ref q11, .ref q19, .ref q25, .int (iZ 0), .long (lZ 0)])) rfl ?_
  have h_F : (hup (hup (hup (hup (hup (hup (hup (hup h b (.inr (6, [.int (iZ si), .long (lZ pe), .long (lZ ow9), .long (lZ 0), .long (lZ 0), .long (lZ 1), .int (iZ 1), .int (iZ 0), .null, .null, .null, .int (iZ 0), .long (lZ 0)]))) q11 (gI G 10 (fun _ => 0))) b (.inr (6, [.int (iZ si), .long (lZ pe), .long (lZ ow9), .long (lZ 0), .long (lZ 0), .long (lZ 1), .int (iZ 1), .int (iZ 0), .ref q11, .null, .null, .int (iZ 0), .long (lZ 0)]))) q19 (gJ G 10 (fun _ => 0))) b (.inr (6, [.int (iZ si), .long (lZ pe), .long (lZ ow9), .long (lZ 0), .long (lZ 0), .long (lZ 1), .int (iZ 1), .int (iZ 0), .ref q11, .ref q19, .null, .int (iZ 0), .long (lZ 0)]))) q25 (.inr (3, FF4 0 0 0 0))) q25 (.inr (3, FF4 0 (-1) 0 0))) b (.inr (6, [.int (iZ si), .long (lZ pe), .long (lZ ow9), .long (lZ 0), .long (lZ 0), .long (lZ 1), .int (iZ 1), .int (iZ 0), .ref q11, .ref q19, .ref q25, .int (iZ 0), .long (lZ 0)]))) b = _ := hup_eq _ _ _
  refine j_aload_n hX dX4_init_35 rfl ?_
  refine j_ldc2 hX k_X4_28 (z := -1) (by decide) dX4_init_36 ?_
  refine j_putE hX fp_X4_30_6 dX4_init_39 h_F rfl rfl (Nat.le_of_ble_eq_true rfl) (fs2 := ([.int (iZ si), .long (lZ pe), .long (lZ ow9), .long (lZ 0), .long (lZ 0), .long (lZ 1), .int (iZ 1), .int (iZ 0), .ref q11, .ref q19, .ref q25, .int (iZ 0), .long (lZ (-1))])) rfl ?_
  have h_F : (hup (hup (hup (hup (hup (hup (hup (hup (hup h b (.inr (6, [.int (iZ si), .long (lZ pe), .long (lZ ow9), .long (lZ 0), .long (lZ 0), .long (lZ 1), .int (iZ 1), .int (iZ 0), .null, .null, .null, .int (iZ 0), .long (lZ 0)]))) q11 (gI G 10 (fun _ => 0))) b (.inr (6, [.int (iZ si), .long (lZ pe), .long (lZ ow9), .long (lZ 0), .long (lZ 0), .long (lZ 1), .int (iZ 1), .int (iZ 0), .ref q11, .null, .null, .int (iZ 0), .long (lZ 0)]))) q19 (gJ G 10 (fun _ => 0))) b (.inr (6, [.int (iZ si), .long (lZ pe), .long (lZ ow9), .long (lZ 0), .long (lZ 0), .long (lZ 1), .int (iZ 1), .int (iZ 0), .ref q11, .ref q19, .null, .int (iZ 0), .long (lZ 0)]))) q25 (.inr (3, FF4 0 0 0 0))) q25 (.inr (3, FF4 0 (-1) 0 0))) b (.inr (6, [.int (iZ si), .long (lZ pe), .long (lZ ow9), .long (lZ 0), .long (lZ 0), .long (lZ 1), .int (iZ 1), .int (iZ 0), .ref q11, .ref q19, .ref q25, .int (iZ 0), .long (lZ 0)]))) b (.inr (6, [.int (iZ si), .long (lZ pe), .long (lZ ow9), .long (lZ 0), .long (lZ 0), .long (lZ 1), .int (iZ 1), .int (iZ 0), .ref q11, .ref q19, .ref q25, .int (iZ 0), .long (lZ (-1))]))) b = _ := hup_eq _ _ _
  refine j_aload_n hX dX4_init_42 rfl ?_
  refine j_iload hX dX4_init_43 rfl ?_
  refine j_putFE hX ff_X4_34_6 hin dX4_init_45 h_F rfl rfl (Nat.le_of_ble_eq_true rfl) (fs2 := ([.int (iZ si), .long (lZ pe), .long (lZ ow9), .long (lZ 0), .long (lZ 0), .long (lZ 1), .int (iZ 1), .int (iZ ra), .ref q11, .ref q19, .ref q25, .int (iZ 0), .long (lZ (-1))])) rfl ?_
  have y11 : h q11 = none := by rw [hup_ne n11.symm] at hq11; exact hq11
  have y19 : h q19 = none := by rw [hup_ne n19.symm, hup_ne m19.symm, hup_ne n19.symm] at hq19; exact hq19
  have y25 : h q25 = none := by rw [hup_ne n25.symm, hup_ne k19.symm, hup_ne n25.symm, hup_ne k11.symm, hup_ne n25.symm] at hq25; exact hq25
  exact j_vret hX hR dX4_init_48 ⟨q11, q19, q25, ⟨y11, y19, y25, m19, k11, k19⟩, hup_eq _ _ _, by rw [hup_ne n11.symm, hup_ne n11.symm, hup_ne n11.symm, hup_ne k11, hup_ne k11]; exact z11, by rw [hup_ne n19.symm, hup_ne n19.symm, hup_ne n19.symm, hup_ne k19, hup_ne k19]; exact z19, by rw [hup_ne n25.symm, hup_ne n25.symm, hup_ne n25.symm]; exact hup_eq _ _ _, fun a e0 e1 e2 e3 => by rw [hup_ne e0, hup_ne e0, hup_ne e0, hup_ne e3, hup_ne e3, hup_ne e0, hup_ne e2, hup_ne e0, hup_ne e1, hup_ne e0]⟩
