/-! THE CLASS: find -/
theorem hup_id {h : hF} {a : Nat} {e : va_E} (he : h a = some e) : hup h a e = h := by
  funext j; unfold hup; split
  · rename_i q; rw [q, he]
  · rfl
theorem isL_eq {σ : St} {n m t : Nat} (hO : OK n m σ) (ht : 1 ≤ t ∧ t ≤ n) {B q w : Int} (hB : 0 ≤ B ∧ B ≤ 1000) (hq : 0 ≤ q ∧ q ≤ 500) (h : isL (nee σ n m t B q) w) (hw : w ≤ 1000000) : nee σ n m t B q w = w := by
  have h1 := (nee_b hO ht hB hq (w := w) ⟨by have := h.1; omega, hw⟩).1
  have h2 := h.2.1
  have h3 := nee_mono hO (t := t) (B := B) (q := q) h2
  have h4 := h.2.2 _ h1 h3
  omega
theorem low_le {σ : St} {n m t : Nat} (hO : OK n m σ) {B q v : Int} (hl : 1 ≤ 1000000 - (shT σ t n + shI σ m)) (hv : 1 ≤ v) (h : nee σ n m t B q v ≤ v) : upw (((q + 1) * cosT σ t + B) * 1000000) (1000000 - (shT σ t n + shI σ m)) ≤ v := by
  refine upw_le hl ?_
  have h1 := shr_le hO (t := t) (show 0 ≤ v by omega)
  unfold nee at h
  rw [Int.mul_sub]
  omega
theorem low_no {σ : St} {n m t : Nat} (hO : OK n m σ) {B q v : Int} (hl : 1000000 - (shT σ t n + shI σ m) < 1) (hv : 1 ≤ v) (hf : 1 ≤ (q + 1) * cosT σ t + B) : ¬ nee σ n m t B q v ≤ v := by
  intro h
  have h1 := shr_le hO (t := t) (show 0 ≤ v by omega)
  have h2 := Int.mul_le_mul_of_nonneg_left (show 1000000 ≤ shT σ t n + shI σ m by omega) (show 0 ≤ v by omega)
  unfold nee at h
  omega
theorem find_no {σ : St} {n m t : Nat} {B : Int} {k : Nat} {q best tu sp : Int} (hb : best ≤ σ 1 t) (h : ∀ u, 1 ≤ u → u ≤ 40000 → u ≤ latT σ t q + σ 1 t → ¬ nee σ n m t B q u ≤ u) : srch σ n m t B (k + 1) q best tu sp = (-1, 0, 0) := by
  unfold srch
  rcases spn_cases (nee σ n m t B q) with ⟨h1, h2⟩ | ⟨h1, -⟩
  · generalize spn (nee σ n m t B q) = w at *
    have hw : latT σ t q + σ 1 t < w := by
      rcases Int.lt_or_le (latT σ t q + σ 1 t) w with z | z
      · exact z
      · exact absurd h1.2.1 (h w h1.1 h2 z)
    have := h1.1
    rw [if_neg (by omega)]
    split
    · rw [if_pos (by omega), if_pos (by omega)]
    · rw [if_pos (by omega)]
      exact srch_over _ _ _ _ _ (by omega)
  · rw [if_pos h1]
theorem c_costT {l : Launch} {G : Gt} {B : Nat} {h : hF} {AD : Nat → Nat} {σ : St} {n m : Nat} (hC : Cr G h AD σ n m) {t : Nat} (ht : 1 ≤ t ∧ t ≤ n) : Ct l G B yX2_cost cX2_cost 1 (some .long) 0 0 0 [.ref (AD (20 + 4 * t))] h (fun v h' => v = .long (lZ (cosT σ t)) ∧ h = h') := c_cost (hC.taskP ht)
theorem c_laterT {l : Launch} {G : Gt} {B : Nat} {h : hF} {AD : Nat → Nat} {σ : St} {n m : Nat} (hC : Cr G h AD σ n m) (hO : OK n m σ) {t : Nat} (ht : 1 ≤ t ∧ t ≤ n) {q : Int} (hq : 0 ≤ q ∧ q ≤ 500) : Ct l G B yX2_laterOf cX2_laterOf 4 (some .long) 1 0 0 [.ref (AD (20 + 4 * t)), .int (iZ q)] h (fun v h' => v = .long (lZ (latT σ t q)) ∧ h = h') := c_later (hC.taskP ht) (hO.2.2.1 t ht.1 ht.2).P hq
set_option maxRecDepth 100000 in
set_option maxHeartbeats 4000000 in
theorem c_start {l : Launch} {G : Gt} {B : Nat} {h : hF} {q : Nat} {a b c9 d : Int} (h_F : h q = some (.inr (3, FF4 a b c9 d))) : Cv l G B yX1_start cX1_start 1 0 0 0 [.ref q] h (fun h' => h' = hup h q (.inr (3, FF4 1 (-1) c9 d))) := by
  refine Cv.of (by decide) (Nat.le_of_ble_eq_true rfl) ?_
  intro p e s m9 below meth c A hX hR hin
  refine j_aload_n hX dX1_start_0 rfl ?_
  refine j_iconst hX dX1_start_1 ?_
  refine j_putE hX fp_X1_17_3 dX1_start_2 h_F rfl rfl (Nat.le_of_ble_eq_true rfl) (fs2 := (FF4 1 b c9 d)) rfl ?_
  have h_F : hup h q (.inr (3, FF4 1 b c9 d)) q = _ := hup_eq _ _ _
  refine j_aload_n hX dX1_start_5 rfl ?_
  refine j_ldc2 hX k_X1_9 (z := -1) (by decide) dX1_start_6 ?_
  refine j_putE hX fp_X1_11_3 dX1_start_9 h_F rfl rfl (Nat.le_of_ble_eq_true rfl) (fs2 := (FF4 1 (-1) c9 d)) rfl ?_
  exact j_vret hX hR dX1_start_12 (hup_hup _ _ _ _)
set_option maxRecDepth 100000 in
set_option maxHeartbeats 4000000 in
theorem c_tell {l : Launch} {G : Gt} {B : Nat} {h : hF} {q : Nat} {a b c9 d : Int} (h_F : h q = some (.inr (3, FF4 a b c9 d))) {x y z : Int} : Cv l G B yX1_tell cX1_tell 6 0 0 0 [.ref q, .long (lZ x), .int (iZ y), .long (lZ z)] h (fun h' => h' = hup h q (.inr (3, FF4 a x y z))) := by
  refine Cv.of (by decide) (Nat.le_of_ble_eq_true rfl) ?_
  intro p e s m9 below meth c A hX hR hin
  refine j_aload_n hX dX1_tell_0 rfl ?_
  refine j_lload_n hX dX1_tell_1 rfl ?_
  refine j_putE hX fp_X1_11_3 dX1_tell_2 h_F rfl rfl (Nat.le_of_ble_eq_true rfl) (fs2 := (FF4 a x c9 d)) rfl ?_
  have h_F : hup h q (.inr (3, FF4 a x c9 d)) q = _ := hup_eq _ _ _
  refine j_aload_n hX dX1_tell_5 rfl ?_
  refine j_iload_n hX dX1_tell_6 rfl ?_
  refine j_putE hX fp_X1_21_3 dX1_tell_7 h_F rfl rfl (Nat.le_of_ble_eq_true rfl) (fs2 := (FF4 a x y d)) rfl ?_
  have h_F : hup (hup h q (.inr (3, FF4 a x c9 d))) q (.inr (3, FF4 a x y d)) q = _ := hup_eq _ _ _
  refine j_aload_n hX dX1_tell_10 rfl ?_
  refine j_lload hX dX1_tell_11 rfl ?_
  refine j_putE hX fp_X1_25_3 dX1_tell_13 h_F rfl rfl (Nat.le_of_ble_eq_true rfl) (fs2 := (FF4 a x y z)) rfl ?_
  exact j_vret hX hR dX1_tell_16 (by rw [hup_hup, hup_hup])
set_option maxRecDepth 100000 in
set_option maxHeartbeats 4000000 in
theorem c_find {l : Launch} {G : Gt} {B : Nat} {h : hF} {AD : Nat → Nat} {σ : St} {n m : Nat} (hC : Cr G h AD σ n m) (hO : OK n m σ) {t : Nat} (ht : 1 ≤ t ∧ t ≤ n) {k : Nat} (hk : k = 14 ∨ ∃ t : Nat, 1 ≤ t ∧ t ≤ n ∧ k = 23 + 4 * t) {a b c9 d : Int} (h_F : h (AD k) = some (.inr (3, FF4 a b c9 d))) : Cv l G B yX0_find cX0_find 23 5 0 0 [.ref (AD 0), .ref (AD (20 + 4 * t)), .ref (AD k)] h (fun h' => ∃ tu sp : Int, h' = hup h (AD k) (.inr (3, FF4 1 (ansF σ n m t).1 tu sp)) ∧ ((ansF σ n m t).1 ≠ -1 → tu = (ansF σ n m t).2.1 ∧ sp = (ansF σ n m t).2.2)) := by
  refine Cv.of (by decide) (Nat.le_of_ble_eq_true rfl) ?_
  intro p e s m9 below meth c A hX hR hin
  have hn16 := hO.1
  have hm8 := hO.2.1
  have h_C := hC.2.1.1
  have hTL := hC.2.2.1
  have hIL := hC.2.2.2.1
  have hTL9 := hTL
  obtain ⟨mcT, capT, gT, h_TL, -⟩ := hTL9
  have hIL9 := hIL
  obtain ⟨mcI, capI, gI9, h_IL, -⟩ := hIL9
  obtain ⟨o0, o1, o2, o3, o4, o5, o6, o7, o8, o9⟩ := hO.2.2.1 t ht.1 ht.2
  have h_T := hC.task ht
  have hBb := blk_b (t := t) hO
  have hC1 := hC.fnd hO.1 hk 1 (-1) c9 d (Or.inr rfl)
  have hsb1 := shT_b hO (t := t) n (Nat.le_refl n)
  have hsb2 := shI_b hO m (Nat.le_refl m)
  have hct : 1 ≤ cosT σ t ∧ cosT σ t ≤ 2000 := by unfold cosT; omega
  refine J_abs (J0 := J p l e _ s m9 _ below meth c _ _ G A) ?_
  intro JX hji hjo
  have lp : 1 ≤ 1000000 - (shT σ t n + shI σ m) → ∀ (f q : Nat) (best tu sp sn : Int), f + q = 500 → 0 ≤ best → best ≤ σ 1 t → (0 ≤ tu ∧ tu < 500) → (0 ≤ sn ∧ sn ≤ 40000) → (∀ v, 1 ≤ v → nee σ n m t (blk σ n t) q v ≤ v → sn + cosT σ t ≤ v) → srch σ n m t (blk σ n t) f q best tu sp = ansF σ n m t → JX 0 0 43 [(0, .ref (AD 0)), (1, .ref (AD (20 + 4 * t))), (2, .ref (AD k)), (3, .long (lZ (1000000 - (shT σ t n + shI σ m)))), (5, .long (lZ (blk σ n t))), (7, .long (lZ best)), (9, .int (iZ tu)), (10, .long (lZ sp)), (12, .long (lZ sn)), (14, .int (iZ ((q : Nat) : Int)))] [] (hup h (AD k) (.inr (3, FF4 1 (-1) c9 d))) := by
    intro hleft
    have h_T := hC1.task ht
    have h_F : (hup h (AD k) (.inr (3, FF4 1 (-1) c9 d))) (AD k) = _ := hup_eq _ _ _
    have h_C := hC1.2.1.1
    intro f
    induction f with
    | zero =>
      intro q best tu sp sn hf hb0 hb1 htu hsn hLE hs
      refine hji ?_
      refine j_iload hX dX0_find_43 rfl ?_
      refine j_sipush hX dX0_find_45 (by decide) ?_
      refine j_icmp_ge hX 191 dX0_find_48 (by decide) (by omega) (by omega) (fun c48 => ?_) (fun c48 => absurd c48 (by omega))
      exact j_vret hX hR dX0_find_191 ⟨c9, d, by rw [← hs]; rfl, fun z9 => absurd (by rw [← hs]; rfl) z9⟩
    | succ f ih =>
      intro q best tu sp sn hf hb0 hb1 htu hsn hLE hs
      have hl1 : 0 ≤ latT σ t q ∧ latT σ t q ≤ 10000000 := late_b o5 o4.1 o3 o1 (by omega)
      have hl2 : 0 ≤ latT σ t ((q : Int) + 1) ∧ latT σ t ((q : Int) + 1) ≤ 10000000 := late_b o5 o4.1 o3 o1 (by omega)
      have hfm := mulb (a := (q : Int) + 1) (A := 500) (b := cosT σ t) (B := 2000) (by omega) (by omega)
      have hup9 := upw_b (d := (((q : Int) + 1) * cosT σ t + blk σ n t) * 1000000) (D := 2000000000000) (b := 1000000 - (shT σ t n + shI σ m)) (by omega) hleft
      have hup8 : upw ((((q : Int) + 1) * cosT σ t + blk σ n t) * 1000000) (1000000 - (shT σ t n + shI σ m)) ≤ 2000000000000 := hup9.2
      refine hji ?_
      refine j_iload hX dX0_find_43 rfl ?_
      refine j_sipush hX dX0_find_45 (by decide) ?_
      refine j_icmp_ge hX 191 dX0_find_48 (by decide) (by omega) (by omega) (fun c48 => absurd c48 (by omega)) (fun c48 => ?_)
      refine j_iload hX dX0_find_51 rfl ?_
      refine j_iconst hX dX0_find_53 ?_
      refine j_iadd hX dX0_find_54 ?_
      refine j_i2l hX dX0_find_55 (by omega) ?_
      refine j_aload_n hX dX0_find_56 rfl ?_
      refine j_callU hX cu_X0_76_6 (c_costT hC1 ht) dX0_find_57 h_T rfl rfl (by exact ⟨Nat.le_of_ble_eq_true rfl, Nat.le_of_ble_eq_true rfl⟩) (by exact ⟨Nat.le_of_ble_eq_true rfl, Nat.le_of_ble_eq_true rfl⟩) (by exact Nat.le_of_ble_eq_true rfl) (fun v57 h57 hp57 => ?_) rfl
      obtain ⟨rfl, rfl⟩ := hp57
      refine j_lmul hX dX0_find_60 ?_
      refine j_lload hX dX0_find_61 rfl ?_
      refine j_ladd hX dX0_find_63 ?_
      refine j_lstore hX dX0_find_64 (by decide) ?_
      refine j_aload_n hX dX0_find_66 rfl ?_
      refine j_iload hX dX0_find_67 rfl ?_
      refine j_callU hX cu_X0_100_6 (c_laterT hC1 hO ht (by omega)) dX0_find_69 h_T rfl rfl (by exact ⟨Nat.le_of_ble_eq_true rfl, Nat.le_of_ble_eq_true rfl⟩) (by exact ⟨Nat.le_of_ble_eq_true rfl, Nat.le_of_ble_eq_true rfl⟩) (by exact Nat.le_of_ble_eq_true rfl) (fun v69 h69 hp69 => ?_) rfl
      obtain ⟨rfl, rfl⟩ := hp69
      refine j_lstore hX dX0_find_72 (by decide) ?_
      refine j_lload hX dX0_find_74 rfl ?_
      refine j_aload_n hX dX0_find_76 rfl ?_
      refine j_callU hX cu_X0_76_6 (c_costT hC1 ht) dX0_find_77 h_T rfl rfl (by exact ⟨Nat.le_of_ble_eq_true rfl, Nat.le_of_ble_eq_true rfl⟩) (by exact ⟨Nat.le_of_ble_eq_true rfl, Nat.le_of_ble_eq_true rfl⟩) (by exact Nat.le_of_ble_eq_true rfl) (fun v77 h77 hp77 => ?_) rfl
      obtain ⟨rfl, rfl⟩ := hp77
      refine j_ladd hX dX0_find_80 ?_
      refine j_lload hX dX0_find_81 rfl ?_
      refine j_ldc2 hX k_X0_91 (z := 1000000) (by decide) dX0_find_83 ?_
      refine j_lmul hX dX0_find_86 ?_
      refine j_lload_n hX dX0_find_87 rfl ?_
      refine j_callSN hX cn_X0_104 q_294 (c_upwards _ _ _ (by omega) (by omega)) dX0_find_88 rfl (by exact ⟨Nat.le_of_ble_eq_true rfl, Nat.le_of_ble_eq_true rfl⟩) (by exact ⟨Nat.le_of_ble_eq_true rfl, Nat.le_of_ble_eq_true rfl⟩) (by exact Nat.le_of_ble_eq_true rfl) (fun v88 h88 hp88 => ?_) rfl
      obtain ⟨rfl, rfl⟩ := hp88
      refine j_lmax hX mx_X0_49.1 mx_X0_49.2.1 mx_X0_49.2.2.1 mx_X0_49.2.2.2 dX0_find_91 (by omega) (by omega) (by exact ⟨Nat.le_of_ble_eq_true rfl, Nat.le_of_ble_eq_true rfl⟩) (by exact ⟨Nat.le_of_ble_eq_true rfl, Nat.le_of_ble_eq_true rfl⟩) ?_
      refine j_lstore hX dX0_find_94 (by decide) ?_
      refine j_ldc2 hX k_X0_107 (z := 40000) (by decide) dX0_find_96 ?_
      refine j_lload hX dX0_find_99 rfl ?_
      refine j_aload_n hX dX0_find_101 rfl ?_
      refine j_get hX fl_X0_109_6 dX0_find_102 h_T (by rfl) ?_
      refine j_ladd hX dX0_find_105 ?_
      refine j_lmin hX mx_X0_113.1 mx_X0_113.2.1 mx_X0_113.2.2.1 mx_X0_113.2.2.2 dX0_find_106 (by omega) (by omega) (by exact ⟨Nat.le_of_ble_eq_true rfl, Nat.le_of_ble_eq_true rfl⟩) (by exact ⟨Nat.le_of_ble_eq_true rfl, Nat.le_of_ble_eq_true rfl⟩) ?_
      refine j_lstore hX dX0_find_109 (by decide) ?_
      refine j_aload_n hX dX0_find_111 rfl ?_
      refine j_aload_n hX dX0_find_112 rfl ?_
      refine j_lload hX dX0_find_113 rfl ?_
      refine j_lload hX dX0_find_115 rfl ?_
      refine j_lload hX dX0_find_117 rfl ?_
      refine j_callV hX cv_X0_116 (c_spanFrom hC1 hO ht (q := q) (Bq := blk σ n t) (by omega) hBb rfl (by omega) (by split <;> omega) (by split <;> omega) (fun v v1 v2 => by have e1 := hLE v v1 v2; have e2 := low_le hO hleft v1 v2; split <;> omega)) dX0_find_119 h_C rfl rfl (by exact ⟨Nat.le_of_ble_eq_true rfl, Nat.le_of_ble_eq_true rfl⟩) (by exact ⟨Nat.le_of_ble_eq_true rfl, Nat.le_of_ble_eq_true rfl⟩) (by exact Nat.le_of_ble_eq_true rfl) (fun v119 h119 hp119 => ?_) rfl
      obtain ⟨⟨r9, rfl, hr9⟩, rfl⟩ := hp119
      have hr8 : (isL (nee σ n m t (blk σ n t) q) r9 ∧ r9 ≤ 40000 ∧ r9 ≤ latT σ t q + σ 1 t) ∨ (r9 = -1 ∧ ∀ u, 1 ≤ u → u ≤ 40000 → u ≤ latT σ t q + σ 1 t → ¬ nee σ n m t (blk σ n t) q u ≤ u) := by
        rcases hr9 with ⟨a1, a2⟩ | ⟨a1, a2⟩
        · exact Or.inl ⟨a1, by split at a2 <;> omega, by split at a2 <;> omega⟩
        · exact Or.inr ⟨a1, fun u u1 u2 u3 => a2 u u1 (by split <;> omega)⟩
      have hrb : -1 ≤ r9 ∧ r9 ≤ 40000 := by rcases hr8 with ⟨a1, a2, -⟩ | ⟨a1, -⟩; exact ⟨by have := a1.1; omega, a2⟩; omega
      refine j_lstore hX dX0_find_122 (by decide) ?_
      refine j_lload hX dX0_find_124 rfl ?_
      refine j_ldc2 hX k_X0_120 (z := -1) (by decide) dX0_find_126 ?_
      refine j_lcmp_ne hX 134 dX0_find_129 dX0_find_130 (by decide) (by omega) (by omega) (fun c129 => ?_) (fun c129 => ?_)
      · have hL9 : isL (nee σ n m t (blk σ n t) q) r9 ∧ r9 ≤ 40000 ∧ r9 ≤ latT σ t q + σ 1 t := by rcases hr8 with a | ⟨a, -⟩; exact a; exact absurd a c129
        obtain ⟨hL9, hr40, hrp⟩ := hL9
        have hr1 := hL9.1
        have hLe := isL_eq hO ht hBb (by omega) hL9 (by omega)
        have hsp := spn_some hL9 hr40
        unfold srch at hs
        rw [hsp, if_neg (show ¬ r9 = 0 by omega)] at hs
        refine j_lload hX dX0_find_134 rfl ?_
        refine j_lload hX dX0_find_136 rfl ?_
        refine j_lsub hX dX0_find_138 ?_
        refine j_lload hX dX0_find_139 rfl ?_
        refine j_lcmp_le hX 160 dX0_find_141 dX0_find_142 (by decide) (by omega) (by omega) (fun c141 => ?_) (fun c141 => ?_)
        · refine j_lload hX dX0_find_160 rfl ?_
          refine j_aload_n hX dX0_find_162 rfl ?_
          refine j_iload hX dX0_find_163 rfl ?_
          refine j_iconst hX dX0_find_165 ?_
          refine j_iadd hX dX0_find_166 ?_
          refine j_callU hX cu_X0_100_6 (c_laterT hC1 hO ht (by omega)) dX0_find_167 h_T rfl rfl (by exact ⟨Nat.le_of_ble_eq_true rfl, Nat.le_of_ble_eq_true rfl⟩) (by exact ⟨Nat.le_of_ble_eq_true rfl, Nat.le_of_ble_eq_true rfl⟩) (by exact Nat.le_of_ble_eq_true rfl) (fun v167 h167 hp167 => ?_) rfl
          obtain ⟨rfl, rfl⟩ := hp167
          refine j_lcmp_gt hX 185 dX0_find_170 dX0_find_171 (by decide) (by omega) (by omega) (fun c170 => ?_) (fun c170 => ?_)
          · refine j_iinc hX dX0_find_185 rfl (by decide) ?_
            refine j_goto hX 43 dX0_find_188 (by decide) ?_
            rw [if_neg (by omega), if_neg (by omega)] at hs
            exact j_at (L' := [(0, .ref (AD 0)), (1, .ref (AD (20 + 4 * t))), (2, .ref (AD k)), (3, .long (lZ (1000000 - (shT σ t n + shI σ m)))), (5, .long (lZ (blk σ n t))), (7, .long (lZ best)), (9, .int (iZ tu)), (10, .long (lZ sp)), (12, .long (lZ r9)), (14, .int (iZ (((q + 1) : Nat) : Int)))]) (hjo (ih (q + 1) _ _ _ _ (by omega) (by omega) (by omega) (by omega) (by omega) (fun v v1 v2 => by have e := nee_succ (σ := σ) (n := n) (m := m) (t := t) (B := blk σ n t) (q := q) (w := v); have e2 : nee σ n m t (blk σ n t) ((q : Int) + 1) v ≤ v := v2; have e3 := hL9.2.2 v v1 (by omega); have e4 := nee_mono hO (t := t) (B := blk σ n t) (q := q) e3; omega) hs)) ⟨rfl, rfl, rfl, rfl, rfl, rfl, rfl, rfl, rfl, rfl, trivial⟩
          · refine j_aload_n hX dX0_find_174 rfl ?_
            refine j_lload hX dX0_find_175 rfl ?_
            refine j_iload hX dX0_find_177 rfl ?_
            refine j_lload hX dX0_find_179 rfl ?_
            refine j_callVv hX cv_X0_122 (c_tell h_F) dX0_find_181 h_F rfl rfl (by exact ⟨Nat.le_of_ble_eq_true rfl, Nat.le_of_ble_eq_true rfl⟩) (by exact ⟨Nat.le_of_ble_eq_true rfl, Nat.le_of_ble_eq_true rfl⟩) (by exact Nat.le_of_ble_eq_true rfl) (fun h181 hp181 => ?_) rfl
            subst hp181
            rw [if_pos (by omega), if_neg (by omega), if_neg (by omega)] at hs
            exact j_vret hX hR dX0_find_184 ⟨_, _, by rw [hup_hup, ← hs], fun _ => by rw [← hs]; exact ⟨rfl, rfl⟩⟩
        · refine j_lload hX dX0_find_145 rfl ?_
          refine j_lload hX dX0_find_147 rfl ?_
          refine j_lsub hX dX0_find_149 ?_
          refine j_lstore hX dX0_find_150 (by decide) ?_
          refine j_iload hX dX0_find_152 rfl ?_
          refine j_istore hX dX0_find_154 (by decide) ?_
          refine j_lload hX dX0_find_156 rfl ?_
          refine j_lstore hX dX0_find_158 (by decide) ?_
          refine j_lload hX dX0_find_160 rfl ?_
          refine j_aload_n hX dX0_find_162 rfl ?_
          refine j_iload hX dX0_find_163 rfl ?_
          refine j_iconst hX dX0_find_165 ?_
          refine j_iadd hX dX0_find_166 ?_
          refine j_callU hX cu_X0_100_6 (c_laterT hC1 hO ht (by omega)) dX0_find_167 h_T rfl rfl (by exact ⟨Nat.le_of_ble_eq_true rfl, Nat.le_of_ble_eq_true rfl⟩) (by exact ⟨Nat.le_of_ble_eq_true rfl, Nat.le_of_ble_eq_true rfl⟩) (by exact Nat.le_of_ble_eq_true rfl) (fun v167 h167 hp167 => ?_) rfl
          obtain ⟨rfl, rfl⟩ := hp167
          refine j_lcmp_gt hX 185 dX0_find_170 dX0_find_171 (by decide) (by omega) (by omega) (fun c170 => ?_) (fun c170 => ?_)
          · refine j_iinc hX dX0_find_185 rfl (by decide) ?_
            refine j_goto hX 43 dX0_find_188 (by decide) ?_
            rw [if_neg (by omega), if_pos (by omega)] at hs
            exact j_at (L' := [(0, .ref (AD 0)), (1, .ref (AD (20 + 4 * t))), (2, .ref (AD k)), (3, .long (lZ (1000000 - (shT σ t n + shI σ m)))), (5, .long (lZ (blk σ n t))), (7, .long (lZ (r9 - latT σ t q))), (9, .int (iZ q)), (10, .long (lZ r9)), (12, .long (lZ r9)), (14, .int (iZ (((q + 1) : Nat) : Int)))]) (hjo (ih (q + 1) _ _ _ _ (by omega) (by omega) (by omega) (by omega) (by omega) (fun v v1 v2 => by have e := nee_succ (σ := σ) (n := n) (m := m) (t := t) (B := blk σ n t) (q := q) (w := v); have e2 : nee σ n m t (blk σ n t) ((q : Int) + 1) v ≤ v := v2; have e3 := hL9.2.2 v v1 (by omega); have e4 := nee_mono hO (t := t) (B := blk σ n t) (q := q) e3; omega) hs)) ⟨rfl, rfl, rfl, rfl, rfl, rfl, rfl, rfl, rfl, rfl, trivial⟩
          · refine j_aload_n hX dX0_find_174 rfl ?_
            refine j_lload hX dX0_find_175 rfl ?_
            refine j_iload hX dX0_find_177 rfl ?_
            refine j_lload hX dX0_find_179 rfl ?_
            refine j_callVv hX cv_X0_122 (c_tell h_F) dX0_find_181 h_F rfl rfl (by exact ⟨Nat.le_of_ble_eq_true rfl, Nat.le_of_ble_eq_true rfl⟩) (by exact ⟨Nat.le_of_ble_eq_true rfl, Nat.le_of_ble_eq_true rfl⟩) (by exact Nat.le_of_ble_eq_true rfl) (fun h181 hp181 => ?_) rfl
            subst hp181
            rw [if_pos (by omega), if_pos (by omega), if_neg (by omega)] at hs
            exact j_vret hX hR dX0_find_184 ⟨_, _, by rw [hup_hup, ← hs], fun _ => by rw [← hs]; exact ⟨rfl, rfl⟩⟩
      · have hno := find_no (k := f) (tu := tu) (sp := sp) hb1 (by rcases hr8 with ⟨a1, -⟩ | ⟨-, a2⟩; exact absurd a1.1 (by omega); exact a2)
        rw [hno] at hs
        exact j_vret hX hR dX0_find_133 ⟨c9, d, by rw [← hs], fun z9 => absurd (by rw [← hs]) z9⟩
  refine hji ?_
  refine j_aload_n hX dX0_find_0 rfl ?_
  refine j_callVv hX cv_X0_86 (c_start h_F) dX0_find_1 h_F rfl rfl (by exact ⟨Nat.le_of_ble_eq_true rfl, Nat.le_of_ble_eq_true rfl⟩) (by exact ⟨Nat.le_of_ble_eq_true rfl, Nat.le_of_ble_eq_true rfl⟩) (by exact Nat.le_of_ble_eq_true rfl) (fun h1 hp1 => ?_) rfl
  subst hp1
  have h_C := hC1.2.1.1
  have h_T := hC1.task ht
  have h_F : (hup h (AD k) (.inr (3, FF4 1 (-1) c9 d))) (AD k) = _ := hup_eq _ _ _
  refine j_ldc2 hX k_X0_91 (z := 1000000) (by decide) dX0_find_4 ?_
  refine j_aload_n hX dX0_find_7 rfl ?_
  refine j_aload_n hX dX0_find_8 rfl ?_
  refine j_callV hX cv_X0_93 (c_leastShareAbove hC1 hO ht) dX0_find_9 h_C rfl rfl (by exact ⟨Nat.le_of_ble_eq_true rfl, Nat.le_of_ble_eq_true rfl⟩) (by exact ⟨Nat.le_of_ble_eq_true rfl, Nat.le_of_ble_eq_true rfl⟩) (by exact Nat.le_of_ble_eq_true rfl) (fun v9 h9 hp9 => ?_) rfl
  obtain ⟨rfl, rfl⟩ := hp9
  refine j_lsub hX dX0_find_12 ?_
  refine j_lstore_n hX dX0_find_13 (by decide) ?_
  refine j_lload_n hX dX0_find_14 rfl ?_
  refine j_lconst1 hX dX0_find_15 ?_
  refine j_lcmp_ge hX 21 dX0_find_16 dX0_find_17 (by decide) (by omega) (by omega) (fun c16 => ?_) (fun c16 => ?_)
  · refine j_aload_n hX dX0_find_21 rfl ?_
    refine j_aload_n hX dX0_find_22 rfl ?_
    refine j_callV hX cv_X0_97 (c_blockingOf hC1 hO ht) dX0_find_23 h_C rfl rfl (by exact ⟨Nat.le_of_ble_eq_true rfl, Nat.le_of_ble_eq_true rfl⟩) (by exact ⟨Nat.le_of_ble_eq_true rfl, Nat.le_of_ble_eq_true rfl⟩) (by exact Nat.le_of_ble_eq_true rfl) (fun v23 h23 hp23 => ?_) rfl
    obtain ⟨rfl, rfl⟩ := hp23
    refine j_lstore hX dX0_find_26 (by decide) ?_
    refine j_lconst0 hX dX0_find_28 ?_
    refine j_lstore hX dX0_find_29 (by decide) ?_
    refine j_iconst hX dX0_find_31 ?_
    refine j_istore hX dX0_find_32 (by decide) ?_
    refine j_lconst0 hX dX0_find_34 ?_
    refine j_lstore hX dX0_find_35 (by decide) ?_
    refine j_lconst0 hX dX0_find_37 ?_
    refine j_lstore hX dX0_find_38 (by decide) ?_
    refine j_iconst hX dX0_find_40 ?_
    refine j_istore hX dX0_find_41 (by decide) ?_
    exact j_at (L' := [(0, .ref (AD 0)), (1, .ref (AD (20 + 4 * t))), (2, .ref (AD k)), (3, .long (lZ (1000000 - (shT σ t n + shI σ m)))), (5, .long (lZ (blk σ n t))), (7, .long (lZ 0)), (9, .int (iZ 0)), (10, .long (lZ 0)), (12, .long (lZ 0)), (14, .int (iZ ((0 : Nat) : Int)))]) (hjo (lp (by omega) 500 0 0 0 0 0 rfl (by omega) (by omega) (by omega) (by omega) (fun v v1 v2 => by have a1 := takT_b hO (t := t) (w := 1) (by omega) n (Nat.le_refl n); have a2 := nee_mono hO (t := t) (B := blk σ n t) (q := 0) v1; have a3 := takI_b hO (w := 1) (by omega) m (Nat.le_refl m); have a4 : nee σ n m t (blk σ n t) 0 1 = (0 + 1) * cosT σ t + blk σ n t + takT σ t n 1 + takI σ m 1 := rfl; have a5 : nee σ n m t (blk σ n t) 0 v ≤ v := v2; omega) (srch_start hO ht (by omega)))) ⟨rfl, rfl, rfl, rfl, rfl, rfl, rfl, rfl, rfl, rfl, trivial⟩
  · have hno : ansF σ n m t = (-1, 0, 0) := by
      show srch σ n m t (blk σ n t) (499 + 1) 0 (-1) 0 0 = _
      unfold srch
      exact if_pos (spn_none (fun v v1 v2 => low_no hO (by omega) v1 (by omega)))
    exact j_vret hX hR dX0_find_20 ⟨c9, d, by rw [hno], fun z9 => absurd (by rw [hno]) z9⟩
