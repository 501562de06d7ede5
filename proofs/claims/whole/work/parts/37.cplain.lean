/-! THE CLASS: plain itself -/
theorem isMax.ex {S : Int → Prop} {N : Nat} (hS : ∀ y, S y → y ≤ (N : Int)) : ∃ x, isMax S x := by
  have h : ∀ k : Nat, (∀ y, S y → y ≤ (k : Int)) → ∃ x, isMax S x := by
    intro k
    induction k with
    | zero => intro hk; exact ⟨0, Or.inl rfl, Int.le_refl 0, fun y hy => by have := hk y hy; omega⟩
    | succ k ih =>
      intro hk
      by_cases e : S ((k + 1 : Nat) : Int)
      · exact ⟨_, Or.inr e, by omega, hk⟩
      · refine ih (fun y hy => ?_)
        have := hk y hy
        by_cases e2 : y = ((k + 1 : Nat) : Int)
        · subst e2; exact absurd hy e
        · omega
  exact h N hS
theorem plm_b {σ : St} {n m : Nat} (hO : OK n m σ) (en : Int) (t : Nat) : 0 ≤ plm σ n en t ∧ plm σ n en t ≤ 50000 := by
  have hb : ∀ y, phS σ n en t y → y ≤ ((50000 : Nat) : Int) := fun y ⟨φ, h0, h1, h2⟩ => by
    rw [h2]; exact (LST_b hO (fun j j1 j2 => (h1 j j1 j2).1) t).2
  have hs : isMax (phS σ n en t) (plm σ n en t) := Classical.epsilon_spec (isMax.ex hb)
  refine ⟨hs.2.1, ?_⟩
  rcases hs.1 with h | h
  · omega
  · exact hb _ h
set_option maxRecDepth 100000 in
set_option maxHeartbeats 4000000 in
theorem c_isPlain {l : Launch} {G : Gt} {B : Nat} {h : hF} {AD : Nat → Nat} {σ : St} {n m : Nat} (hC : Cr G h AD σ n m) (hO : OK n m σ) {t : Nat} (ht : 1 ≤ t ∧ t ≤ n) : Ct l G B yX4_isPlain cX4_isPlain 1 (some .boolean) 0 0 0 [.ref (AD (20 + 4 * t))] h (fun v h' => (∃ y : Int, v = .int (iZ y) ∧ ((y = 1 ∧ σ 3 t = 0 ∧ σ 4 t = 1 ∧ σ 8 t = 0 ∧ σ 6 t = 0) ∨ (y = 0 ∧ ¬ (σ 3 t = 0 ∧ σ 4 t = 1 ∧ σ 8 t = 0 ∧ σ 6 t = 0)))) ∧ h = h') := by
  refine Ct.of (by decide) (Nat.le_of_ble_eq_true rfl) ?_
  intro p e s m9 below meth c A hX hR hin
  have h_T := hC.task ht
  obtain ⟨o0, o1, o2, o3, o4, o5, o6, o7, o8, o9⟩ := hO.2.2.1 t ht.1 ht.2
  refine j_aload_n hX dX4_isPlain_0 rfl ?_
  refine j_get hX fl_X4_41_6 dX4_isPlain_1 h_T (by rfl) ?_
  refine j_lconst0 hX dX4_isPlain_4 ?_
  refine j_lcmp_ne hX 37 dX4_isPlain_5 dX4_isPlain_6 (by decide) (by omega) (by omega) (fun c5 => ?_) (fun c5 => ?_)
  · refine j_iconst hX dX4_isPlain_37 ?_
    exact j_zret hX hR dX4_isPlain_38 (by omega) ⟨⟨_, rfl, by omega⟩, rfl⟩
  · refine j_aload_n hX dX4_isPlain_9 rfl ?_
    refine j_get hX fl_X4_44_6 dX4_isPlain_10 h_T (by rfl) ?_
    refine j_iconst hX dX4_isPlain_13 ?_
    refine j_icmp_ne hX 37 dX4_isPlain_14 (by decide) (by omega) (by omega) (fun c14 => ?_) (fun c14 => ?_)
    · refine j_iconst hX dX4_isPlain_37 ?_
      exact j_zret hX hR dX4_isPlain_38 (by omega) ⟨⟨_, rfl, by omega⟩, rfl⟩
    · refine j_aload_n hX dX4_isPlain_17 rfl ?_
      refine j_get hX fl_X4_38_6 dX4_isPlain_18 h_T (by rfl) ?_
      refine j_if_ne hX 37 dX4_isPlain_21 (by decide) (by omega) (fun c21 => ?_) (fun c21 => ?_)
      · refine j_iconst hX dX4_isPlain_37 ?_
        exact j_zret hX hR dX4_isPlain_38 (by omega) ⟨⟨_, rfl, by omega⟩, rfl⟩
      · refine j_aload_n hX dX4_isPlain_24 rfl ?_
        refine j_get hX fl_X4_47_6 dX4_isPlain_25 h_T (by rfl) ?_
        refine j_lconst0 hX dX4_isPlain_28 ?_
        refine j_lcmp_ne hX 37 dX4_isPlain_29 dX4_isPlain_30 (by decide) (by omega) (by omega) (fun c29 => ?_) (fun c29 => ?_)
        · refine j_iconst hX dX4_isPlain_37 ?_
          exact j_zret hX hR dX4_isPlain_38 (by omega) ⟨⟨_, rfl, by omega⟩, rfl⟩
        · refine j_iconst hX dX4_isPlain_33 ?_
          refine j_goto hX 38 dX4_isPlain_34 (by decide) ?_
          exact j_zret hX hR dX4_isPlain_38 (by omega) ⟨⟨_, rfl, by omega⟩, rfl⟩
set_option maxRecDepth 100000 in
set_option maxHeartbeats 4000000 in
theorem c_tellsPhase {l : Launch} {G : Gt} {B : Nat} {h : hF} {AD : Nat → Nat} {σ : St} {n m : Nat} (hC : Cr G h AD σ n m) (hO : OK n m σ) {t : Nat} (ht : 1 ≤ t ∧ t ≤ n) : Ct l G B yX4_tellsPhase cX4_tellsPhase 1 (some .boolean) 0 0 0 [.ref (AD (20 + 4 * t))] h (fun v h' => (∃ y : Int, v = .int (iZ y) ∧ ((y = 1 ∧ σ 7 t ≠ -1) ∨ (y = 0 ∧ σ 7 t = -1))) ∧ h = h') := by
  refine Ct.of (by decide) (Nat.le_of_ble_eq_true rfl) ?_
  intro p e s m9 below meth c A hX hR hin
  have h_T := hC.task ht
  obtain ⟨o0, o1, o2, o3, o4, o5, o6, o7, o8, o9⟩ := hO.2.2.1 t ht.1 ht.2
  refine j_aload_n hX dX4_tellsPhase_0 rfl ?_
  refine j_get hX fl_X4_30_6 dX4_tellsPhase_1 h_T (by rfl) ?_
  refine j_ldc2 hX k_X4_28 (z := -1) (by decide) dX4_tellsPhase_4 ?_
  refine j_lcmp_eq hX 15 dX4_tellsPhase_7 dX4_tellsPhase_8 (by decide) (by omega) (by omega) (fun c7 => ?_) (fun c7 => ?_)
  · refine j_iconst hX dX4_tellsPhase_15 ?_
    exact j_zret hX hR dX4_tellsPhase_16 (by omega) ⟨⟨_, rfl, by omega⟩, rfl⟩
  · refine j_iconst hX dX4_tellsPhase_11 ?_
    refine j_goto hX 16 dX4_tellsPhase_12 (by decide) ?_
    exact j_zret hX hR dX4_tellsPhase_16 (by omega) ⟨⟨_, rfl, by omega⟩, rfl⟩
set_option maxRecDepth 100000 in
set_option maxHeartbeats 4000000 in
theorem c_tellsAny {l : Launch} {G : Gt} {B : Nat} {h : hF} {AD : Nat → Nat} {σ : St} {n m : Nat} (hC : Cr G h AD σ n m) (hO : OK n m σ) : Ct l G B yX0_tellsAnyPhase cX0_tellsAnyPhase 2 (some .boolean) 3 0 0 [.ref (AD 0)] h (fun v h' => (∃ y : Int, v = .int (iZ y) ∧ flg y (∃ t : Nat, 1 ≤ t ∧ t ≤ n ∧ σ 7 t ≠ -1)) ∧ h = h') := by
  refine Ct.of (by decide) (Nat.le_of_ble_eq_true rfl) ?_
  intro p e s m9 below meth c A hX hR hin
  have hn16 := hO.1
  have hm8 := hO.2.1
  have h_C := hC.2.1.1
  have hTL := hC.2.2.1
  have hIL := hC.2.2.2.1
  have hTL9 := hTL
  obtain ⟨mcT, capT, gT, h_TL, -⟩ := hTL9
  have hIL9 := hIL
  obtain ⟨mcI, capI, gI9, h_IL, -⟩ := hIL9
  refine J_abs (J0 := J p l e _ s m9 _ below meth c _ _ G A) ?_
  intro JX hji hjo
  have lp : ∀ (d o : Nat), d + o = n → (∀ t : Nat, 1 ≤ t → t ≤ o → σ 7 t = -1) → JX 0 0 2 [(0, .ref (AD 0)), (1, .int (iZ ((o : Nat) : Int)))] [] h := by
    intro d
    induction d with
    | zero =>
      intro o hd hx
      refine hji ?_
      refine j_iload_n hX dX0_tellsAnyPhase_2 rfl ?_
      refine j_aload_n hX dX0_tellsAnyPhase_3 rfl ?_
      refine j_get hX fl_X0_12_2 dX0_tellsAnyPhase_4 h_C (by rfl) ?_
      refine j_callV hX cv_X0_25 (c_size hTL) dX0_tellsAnyPhase_7 h_TL rfl rfl (by exact ⟨Nat.le_of_ble_eq_true rfl, Nat.le_of_ble_eq_true rfl⟩) (by exact ⟨Nat.le_of_ble_eq_true rfl, Nat.le_of_ble_eq_true rfl⟩) (by exact Nat.le_of_ble_eq_true rfl) (fun v7 h7 hp7 => ?_) rfl
      obtain ⟨rfl, rfl⟩ := hp7
      refine j_icmp_ge hX 38 dX0_tellsAnyPhase_10 (by decide) (by omega) (by omega) (fun c10 => ?_) (fun c10 => absurd c10 (by omega))
      refine j_iconst hX dX0_tellsAnyPhase_38 ?_
      exact j_zret hX hR dX0_tellsAnyPhase_39 (by omega) ⟨⟨0, rfl, Or.inr ⟨rfl, fun ⟨t, t1, t2, t3⟩ => t3 (hx t t1 (by omega))⟩⟩, rfl⟩
    | succ d ih =>
      intro o hd hx
      have h_O := hC.task (t := o + 1) ⟨by omega, by omega⟩
      have e9 : 20 + 4 * (o + 1) = 24 + 4 * o := by omega
      refine hji ?_
      refine j_iload_n hX dX0_tellsAnyPhase_2 rfl ?_
      refine j_aload_n hX dX0_tellsAnyPhase_3 rfl ?_
      refine j_get hX fl_X0_12_2 dX0_tellsAnyPhase_4 h_C (by rfl) ?_
      refine j_callV hX cv_X0_25 (c_size hTL) dX0_tellsAnyPhase_7 h_TL rfl rfl (by exact ⟨Nat.le_of_ble_eq_true rfl, Nat.le_of_ble_eq_true rfl⟩) (by exact ⟨Nat.le_of_ble_eq_true rfl, Nat.le_of_ble_eq_true rfl⟩) (by exact Nat.le_of_ble_eq_true rfl) (fun v7 h7 hp7 => ?_) rfl
      obtain ⟨rfl, rfl⟩ := hp7
      refine j_icmp_ge hX 38 dX0_tellsAnyPhase_10 (by decide) (by omega) (by omega) (fun c10 => absurd c10 (by omega)) (fun c10 => ?_)
      refine j_aload_n hX dX0_tellsAnyPhase_13 rfl ?_
      refine j_get hX fl_X0_12_2 dX0_tellsAnyPhase_14 h_C (by rfl) ?_
      refine j_iload_n hX dX0_tellsAnyPhase_17 rfl ?_
      refine j_callV hX cv_X0_29 (c_get hTL (by omega) (i := o) (x := AD (20 + 4 * (o + 1))) (by omega) (by rw [e9])) dX0_tellsAnyPhase_18 h_TL rfl rfl (by exact ⟨Nat.le_of_ble_eq_true rfl, Nat.le_of_ble_eq_true rfl⟩) (by exact ⟨Nat.le_of_ble_eq_true rfl, Nat.le_of_ble_eq_true rfl⟩) (by exact Nat.le_of_ble_eq_true rfl) (fun v18 h18 hp18 => ?_) rfl
      obtain ⟨rfl, rfl⟩ := hp18
      refine j_castS hX ck_X0_33 dX0_tellsAnyPhase_21 h_O rfl ?_
      refine j_callV hX cv_X0_146 (c_tellsPhase hC hO (t := o + 1) ⟨by omega, by omega⟩) dX0_tellsAnyPhase_24 h_O rfl rfl (by exact ⟨Nat.le_of_ble_eq_true rfl, Nat.le_of_ble_eq_true rfl⟩) (by exact ⟨Nat.le_of_ble_eq_true rfl, Nat.le_of_ble_eq_true rfl⟩) (by exact Nat.le_of_ble_eq_true rfl) (fun v24 h24 hp24 => ?_) rfl
      obtain ⟨⟨y24, rfl, hy24⟩, rfl⟩ := hp24
      refine j_if_eq hX 32 dX0_tellsAnyPhase_27 (by decide) (by omega) (fun c27 => ?_) (fun c27 => ?_)
      · refine j_iinc hX dX0_tellsAnyPhase_32 rfl (by decide) ?_
        refine j_goto hX 2 dX0_tellsAnyPhase_35 (by decide) ?_
        exact j_at (L' := [(0, .ref (AD 0)), (1, .int (iZ (((o + 1) : Nat) : Int)))]) (hjo (ih (o + 1) (by omega) (fun t t1 t2 => by by_cases e : t = o + 1; subst e; omega; exact hx t t1 (by omega)))) ⟨rfl, rfl, trivial⟩
      · refine j_iconst hX dX0_tellsAnyPhase_30 ?_
        exact j_zret hX hR dX0_tellsAnyPhase_31 (by omega) ⟨⟨1, rfl, Or.inl ⟨rfl, o + 1, by omega, by omega, by omega⟩⟩, rfl⟩
  refine hji ?_
  refine j_iconst hX dX0_tellsAnyPhase_0 ?_
  refine j_istore_n hX dX0_tellsAnyPhase_1 (by decide) ?_
  exact j_at (L' := [(0, .ref (AD 0)), (1, .int (iZ ((0 : Nat) : Int)))]) (hjo (lp n 0 (by omega) (fun t t1 t2 => by omega))) ⟨rfl, rfl, trivial⟩
set_option maxRecDepth 100000 in
set_option maxHeartbeats 4000000 in
theorem c_mayBeRun {l : Launch} {G : Gt} {B : Nat} {h : hF} {AD : Nat → Nat} {σ : St} {n m : Nat} (hC : Cr G h AD σ n m) (hO : OK n m σ) : Ct l G B yX0_mayBeRun cX0_mayBeRun 5 (some .boolean) 4 0 0 [.ref (AD 0)] h (fun v h' => (∃ y : Int, v = .int (iZ y) ∧ flg y (m = 0 ∧ RUN σ n)) ∧ h = h') := by
  refine Ct.of (by decide) (Nat.le_of_ble_eq_true rfl) ?_
  intro p e s m9 below meth c A hX hR hin
  have hn16 := hO.1
  have hm8 := hO.2.1
  have h_C := hC.2.1.1
  have hTL := hC.2.2.1
  have hIL := hC.2.2.2.1
  have hTL9 := hTL
  obtain ⟨mcT, capT, gT, h_TL, -⟩ := hTL9
  have hIL9 := hIL
  obtain ⟨mcI, capI, gI9, h_IL, -⟩ := hIL9
  have hlT := loT_b hO n (Nat.le_refl n)
  have hlI := loI_b hO m (Nat.le_refl m)
  refine J_abs (J0 := J p l e _ s m9 _ below meth c _ _ G A) ?_
  intro JX hji hjo
  have lp : n ≤ 3 → m = 0 → loT σ n ≤ 1000000 → ∀ (d o : Nat), d + o = n → (∀ t : Nat, 1 ≤ t → t ≤ o → σ 3 t = 0 ∧ σ 4 t = 1 ∧ σ 8 t = 0 ∧ σ 6 t = 0) → JX 0 0 38 [(0, .ref (AD 0)), (1, .long (lZ (prd (σ 1) o))), (3, .int (iZ ((o : Nat) : Int)))] [] h := by
    intro hn3 hm0 hl6 d
    induction d with
    | zero =>
      intro o hd hx
      have hon : o = n := by omega
      have hP1 := prd_b3 hO o (by omega) (by omega)
      refine hji ?_
      refine j_iload_n hX dX0_mayBeRun_38 rfl ?_
      refine j_aload_n hX dX0_mayBeRun_39 rfl ?_
      refine j_get hX fl_X0_12_2 dX0_mayBeRun_40 h_C (by rfl) ?_
      refine j_callV hX cv_X0_25 (c_size hTL) dX0_mayBeRun_43 h_TL rfl rfl (by exact ⟨Nat.le_of_ble_eq_true rfl, Nat.le_of_ble_eq_true rfl⟩) (by exact ⟨Nat.le_of_ble_eq_true rfl, Nat.le_of_ble_eq_true rfl⟩) (by exact Nat.le_of_ble_eq_true rfl) (fun v43 h43 hp43 => ?_) rfl
      obtain ⟨rfl, rfl⟩ := hp43
      refine j_icmp_ge hX 86 dX0_mayBeRun_46 (by decide) (by omega) (by omega) (fun c46 => ?_) (fun c46 => absurd c46 (by omega))
      refine j_lload_n hX dX0_mayBeRun_86 rfl ?_
      refine j_ldc2 hX k_X0_144 (z := 60) (by decide) dX0_mayBeRun_87 ?_
      refine j_lcmp_gt hX 98 dX0_mayBeRun_90 dX0_mayBeRun_91 (by decide) (by omega) (by omega) (fun c90 => ?_) (fun c90 => ?_)
      · refine j_iconst hX dX0_mayBeRun_98 ?_
        exact j_zret hX hR dX0_mayBeRun_99 (by omega) ⟨⟨0, rfl, Or.inr ⟨rfl, fun q => by have := q.2.2.2.1; rw [← hon] at this; omega⟩⟩, rfl⟩
      · refine j_iconst hX dX0_mayBeRun_94 ?_
        refine j_goto hX 99 dX0_mayBeRun_95 (by decide) ?_
        exact j_zret hX hR dX0_mayBeRun_99 (by omega) ⟨⟨1, rfl, Or.inl ⟨rfl, hm0, hn3, fun t t1 t2 => hx t t1 (by omega), by rw [← hon]; omega, hl6⟩⟩, rfl⟩
    | succ d ih =>
      intro o hd hx
      have h_O := hC.task (t := o + 1) ⟨by omega, by omega⟩
      have e9 : 20 + 4 * (o + 1) = 24 + 4 * o := by omega
      refine hji ?_
      refine j_iload_n hX dX0_mayBeRun_38 rfl ?_
      refine j_aload_n hX dX0_mayBeRun_39 rfl ?_
      refine j_get hX fl_X0_12_2 dX0_mayBeRun_40 h_C (by rfl) ?_
      refine j_callV hX cv_X0_25 (c_size hTL) dX0_mayBeRun_43 h_TL rfl rfl (by exact ⟨Nat.le_of_ble_eq_true rfl, Nat.le_of_ble_eq_true rfl⟩) (by exact ⟨Nat.le_of_ble_eq_true rfl, Nat.le_of_ble_eq_true rfl⟩) (by exact Nat.le_of_ble_eq_true rfl) (fun v43 h43 hp43 => ?_) rfl
      obtain ⟨rfl, rfl⟩ := hp43
      refine j_icmp_ge hX 86 dX0_mayBeRun_46 (by decide) (by omega) (by omega) (fun c46 => absurd c46 (by omega)) (fun c46 => ?_)
      refine j_aload_n hX dX0_mayBeRun_49 rfl ?_
      refine j_get hX fl_X0_12_2 dX0_mayBeRun_50 h_C (by rfl) ?_
      refine j_iload_n hX dX0_mayBeRun_53 rfl ?_
      refine j_callV hX cv_X0_29 (c_get hTL (by omega) (i := o) (x := AD (20 + 4 * (o + 1))) (by omega) (by rw [e9])) dX0_mayBeRun_54 h_TL rfl rfl (by exact ⟨Nat.le_of_ble_eq_true rfl, Nat.le_of_ble_eq_true rfl⟩) (by exact ⟨Nat.le_of_ble_eq_true rfl, Nat.le_of_ble_eq_true rfl⟩) (by exact Nat.le_of_ble_eq_true rfl) (fun v54 h54 hp54 => ?_) rfl
      obtain ⟨rfl, rfl⟩ := hp54
      refine j_castS hX ck_X0_33 dX0_mayBeRun_57 h_O rfl ?_
      refine j_astore hX dX0_mayBeRun_60 (by decide) ?_
      refine j_lload_n hX dX0_mayBeRun_62 rfl ?_
      refine j_aload hX dX0_mayBeRun_63 rfl ?_
      refine j_get hX fl_X0_109_6 dX0_mayBeRun_65 h_O (by rfl) ?_
      refine j_lmul hX dX0_mayBeRun_68 ?_
      refine j_lstore_n hX dX0_mayBeRun_69 (by decide) ?_
      refine j_aload hX dX0_mayBeRun_70 rfl ?_
      refine j_callV hX cv_X0_141 (c_isPlain hC hO (t := o + 1) ⟨by omega, by omega⟩) dX0_mayBeRun_72 h_O rfl rfl (by exact ⟨Nat.le_of_ble_eq_true rfl, Nat.le_of_ble_eq_true rfl⟩) (by exact ⟨Nat.le_of_ble_eq_true rfl, Nat.le_of_ble_eq_true rfl⟩) (by exact Nat.le_of_ble_eq_true rfl) (fun v72 h72 hp72 => ?_) rfl
      obtain ⟨⟨y72, rfl, hy72⟩, rfl⟩ := hp72
      refine j_if_ne hX 80 dX0_mayBeRun_75 (by decide) (by omega) (fun c75 => ?_) (fun c75 => ?_)
      · refine j_iinc hX dX0_mayBeRun_80 rfl (by decide) ?_
        refine j_goto hX 38 dX0_mayBeRun_83 (by decide) ?_
        exact j_at (L' := [(0, .ref (AD 0)), (1, .long (lZ (prd (σ 1) (o + 1)))), (3, .int (iZ (((o + 1) : Nat) : Int)))]) (hjo (ih (o + 1) (by omega) (fun t t1 t2 => by by_cases e : t = o + 1; subst e; omega; exact hx t t1 (by omega)))) ⟨rfl, rfl, rfl, trivial⟩
      · refine j_iconst hX dX0_mayBeRun_78 ?_
        exact j_zret hX hR dX0_mayBeRun_79 (by omega) ⟨⟨0, rfl, Or.inr ⟨rfl, fun q => by have := q.2.2.1 (o + 1) (by omega) (by omega); omega⟩⟩, rfl⟩
  refine hji ?_
  refine j_aload_n hX dX0_mayBeRun_0 rfl ?_
  refine j_get hX fl_X0_12_2 dX0_mayBeRun_1 h_C (by rfl) ?_
  refine j_callV hX cv_X0_25 (c_size hTL) dX0_mayBeRun_4 h_TL rfl rfl (by exact ⟨Nat.le_of_ble_eq_true rfl, Nat.le_of_ble_eq_true rfl⟩) (by exact ⟨Nat.le_of_ble_eq_true rfl, Nat.le_of_ble_eq_true rfl⟩) (by exact Nat.le_of_ble_eq_true rfl) (fun v4 h4 hp4 => ?_) rfl
  obtain ⟨rfl, rfl⟩ := hp4
  refine j_iconst hX dX0_mayBeRun_7 ?_
  refine j_icmp_gt hX 32 dX0_mayBeRun_8 (by decide) (by omega) (by omega) (fun c8 => ?_) (fun c8 => ?_)
  · refine j_iconst hX dX0_mayBeRun_32 ?_
    exact j_zret hX hR dX0_mayBeRun_33 (by omega) ⟨⟨0, rfl, Or.inr ⟨rfl, fun q => by have := q.2.1; omega⟩⟩, rfl⟩
  · refine j_aload_n hX dX0_mayBeRun_11 rfl ?_
    refine j_get hX fl_X0_18_2 dX0_mayBeRun_12 h_C (by rfl) ?_
    refine j_callV hX cv_X0_134 (c_isEmpty hIL (by omega)) dX0_mayBeRun_15 h_IL rfl rfl (by exact ⟨Nat.le_of_ble_eq_true rfl, Nat.le_of_ble_eq_true rfl⟩) (by exact ⟨Nat.le_of_ble_eq_true rfl, Nat.le_of_ble_eq_true rfl⟩) (by exact Nat.le_of_ble_eq_true rfl) (fun v15 h15 hp15 => ?_) rfl
    obtain ⟨rfl, rfl⟩ := hp15
    refine j_if_eq hX 32 dX0_mayBeRun_18 (by decide) (by split <;> omega) (fun c18 => ?_) (fun c18 => ?_)
    · refine j_iconst hX dX0_mayBeRun_32 ?_
      exact j_zret hX hR dX0_mayBeRun_33 (by omega) ⟨⟨0, rfl, Or.inr ⟨rfl, fun q => by rw [if_pos q.1] at c18; omega⟩⟩, rfl⟩
    · have hm0 : m = 0 := by
        by_cases e : m = 0
        · exact e
        · rw [if_neg e] at c18; exact absurd rfl c18
      refine j_aload_n hX dX0_mayBeRun_21 rfl ?_
      refine j_callV hX cv_X0_138 (c_wholeLoad hC hO) dX0_mayBeRun_22 h_C rfl rfl (by exact ⟨Nat.le_of_ble_eq_true rfl, Nat.le_of_ble_eq_true rfl⟩) (by exact ⟨Nat.le_of_ble_eq_true rfl, Nat.le_of_ble_eq_true rfl⟩) (by exact Nat.le_of_ble_eq_true rfl) (fun v22 h22 hp22 => ?_) rfl
      obtain ⟨rfl, rfl⟩ := hp22
      refine j_ldc2 hX k_X0_91 (z := 1000000) (by decide) dX0_mayBeRun_25 ?_
      refine j_lcmp_le hX 34 dX0_mayBeRun_28 dX0_mayBeRun_29 (by decide) (by omega) (by omega) (fun c28 => ?_) (fun c28 => ?_)
      · refine j_lconst1 hX dX0_mayBeRun_34 ?_
        refine j_lstore_n hX dX0_mayBeRun_35 (by decide) ?_
        refine j_iconst hX dX0_mayBeRun_36 ?_
        refine j_istore_n hX dX0_mayBeRun_37 (by decide) ?_
        exact j_at (L' := [(0, .ref (AD 0)), (1, .long (lZ (prd (σ 1) 0))), (3, .int (iZ ((0 : Nat) : Int)))]) (hjo (lp (by omega) hm0 (by subst hm0; have : loI σ 0 = 0 := rfl; omega) n 0 (by omega) (fun t t1 t2 => by omega))) ⟨rfl, rfl, rfl, trivial⟩
      · refine j_iconst hX dX0_mayBeRun_32 ?_
        exact j_zret hX hR dX0_mayBeRun_33 (by omega) ⟨⟨0, rfl, Or.inr ⟨rfl, fun q => by have := q.2.2.2.2; subst hm0; have : loI σ 0 = 0 := rfl; omega⟩⟩, rfl⟩
set_option maxRecDepth 100000 in
set_option maxHeartbeats 4000000 in
theorem c_plain {l : Launch} {G : Gt} {B : Nat} {h : hF} {AD : Nat → Nat} {σ : St} {n m : Nat} (hL : Cl G h AD σ n m) (hO : OK n m σ) {z : Int} (hz : -2147483648 ≤ z ∧ z < 2147483648) : Ct l G B yX5_plain cX5_plain 7 (some .boolean) 7 0 0 [.ref (AD 15), .int (iZ z)] h (fun v h' => (∃ y : Int, v = .int (iZ y) ∧ flg y (plainF σ n m z)) ∧ Cl G h' AD σ n m ∧ Fc h h' AD n m) := by
  refine Ct.of (by decide) (Nat.le_of_ble_eq_true rfl) ?_
  intro p e s m9 below meth c A hX hR hin
  have hC := hL.1
  have hn16 := hO.1
  have hm8 := hO.2.1
  have h_C := hC.2.1.1
  have hTL := hC.2.2.1
  have hIL := hC.2.2.2.1
  have hTL9 := hTL
  obtain ⟨mcT, capT, gT, h_TL, -⟩ := hTL9
  have hIL9 := hIL
  obtain ⟨mcI, capI, gI9, h_IL, -⟩ := hIL9
  have h_S := hC.2.1.2
  by_cases hz1 : 1 ≤ z ∧ z ≤ (n : Int)
  · obtain ⟨t, rfl⟩ : ∃ t : Nat, z = (t : Int) := ⟨z.toNat, by omega⟩
    have ht : 1 ≤ t ∧ t ≤ n := by omega
    have htn : (t : Int).toNat = t := rfl
    refine j_aload_n hX dX5_plain_0 rfl ?_
    refine j_get hX fl_X5_10_7 dX5_plain_1 h_S (by rfl) ?_
    refine j_iload_n hX dX5_plain_4 rfl ?_
    refine j_callV hX cv_X5_65 (c_taskOfT hC hO ht) dX5_plain_5 h_C rfl rfl (by exact ⟨Nat.le_of_ble_eq_true rfl, Nat.le_of_ble_eq_true rfl⟩) (by exact ⟨Nat.le_of_ble_eq_true rfl, Nat.le_of_ble_eq_true rfl⟩) (by exact Nat.le_of_ble_eq_true rfl) (fun v5 h5 hp5 => ?_) rfl
    obtain ⟨rfl, rfl⟩ := hp5
    have h_T := hC.task ht
    refine j_astore_n hX dX5_plain_8 (by decide) ?_
    refine j_aload_n hX dX5_plain_9 rfl ?_
    refine j_ifnull hX dX5_plain_10 ?_
    refine j_aload_n hX dX5_plain_13 rfl ?_
    refine j_get hX fl_X5_10_7 dX5_plain_14 h_S (by rfl) ?_
    refine j_callV hX cv_X5_154 (c_mayBeRun hC hO) dX5_plain_17 h_C rfl rfl (by exact ⟨Nat.le_of_ble_eq_true rfl, Nat.le_of_ble_eq_true rfl⟩) (by exact ⟨Nat.le_of_ble_eq_true rfl, Nat.le_of_ble_eq_true rfl⟩) (by exact Nat.le_of_ble_eq_true rfl) (fun v17 h17 hp17 => ?_) rfl
    obtain ⟨⟨y17, rfl, hy17⟩, rfl⟩ := hp17
    have hy1 : y17 = 0 ∨ y17 = 1 := by rcases hy17 with ⟨q9, _⟩ | ⟨q9, _⟩ <;> omega
    refine j_if_ne hX 25 dX5_plain_20 (by decide) (by omega) (fun c20 => ?_) (fun c20 => ?_)
    · obtain ⟨hm0, hR9⟩ : m = 0 ∧ RUN σ n := by rcases hy17 with ⟨_, q9⟩ | ⟨q9, _⟩; exact q9; omega
      refine j_aload_n hX dX5_plain_25 rfl ?_
      refine j_aload_n hX dX5_plain_26 rfl ?_
      refine j_callV hX cv_X5_107 (c_findingOf hL hO ht) dX5_plain_27 h_S rfl rfl (by exact ⟨Nat.le_of_ble_eq_true rfl, Nat.le_of_ble_eq_true rfl⟩) (by exact ⟨Nat.le_of_ble_eq_true rfl, Nat.le_of_ble_eq_true rfl⟩) (by exact Nat.le_of_ble_eq_true rfl) (fun v27 h27 hp27 => ?_) rfl
      obtain ⟨rfl, tu27, sp27, rfl, hr27⟩ := hp27
      have hL27 := hL.set hO.1 ht hr27
      have h_F : hup h (AD (23 + 4 * t)) (.inr (3, FF4 1 (ansF σ n m t).1 tu27 sp27)) (AD (23 + 4 * t)) = _ := hup_eq _ _ _
      refine j_get hX fl_X5_111_3 dX5_plain_30 h_F (by rfl) ?_
      refine j_lstore_n hX dX5_plain_33 (by decide) ?_
      refine j_lload_n hX dX5_plain_34 rfl ?_
      refine j_ldc2 hX k_X5_97 (z := -1) (by decide) dX5_plain_35 ?_
      refine j_lcmp_ne hX 44 dX5_plain_38 dX5_plain_39 (by decide) (by have := ans_b hO ht; omega) (by omega) (fun c38 => ?_) (fun c38 => ?_)
      · have hans : (ansF σ n m t).1 ≠ -1 := by omega
        have hab := ans_b hO ht
        have hpb := plm_b hO (endT σ n) t
        have hC2 := hL27.1
        have h_S := hC2.2.1.2
        have h_C := hC2.2.1.1
        obtain ⟨kn9, ct9, en9, f9, h_P, h79, hkn9, hk19⟩ := hL27.2.2
        obtain ⟨F9, hF97, hPS⟩ := hC2.2.2.2.2.2.2.2.1.ps h_P h79
        have h_TL9 := h_TL
        refine j_aload_n hX dX5_plain_44 rfl ?_
        refine j_get hX fl_X5_19_7 dX5_plain_45 h_S (by rfl) ?_
        refine j_get hX fl_X5_157_5 dX5_plain_48 h_P (by rfl) ?_
        refine j_if_ne hX 68 dX5_plain_51 (by decide) (by omega) (fun c51 => ?_) (fun c51 => ?_)
        · obtain ⟨-, hc9, hv9⟩ := hk19 (by omega)
          subst hc9
          have hval : F9 7 (t - 1) = plm σ n (endT σ n) t := by rw [hF97]; exact hv9 t ht.1 ht.2
          refine j_aload_n hX dX5_plain_68 rfl ?_
          refine j_get hX fl_X5_19_7 dX5_plain_69 hL27.1.2.1.2 (by rfl) ?_
          refine j_iload_n hX dX5_plain_72 rfl ?_
          refine j_iconst hX dX5_plain_73 ?_
          refine j_isub hX dX5_plain_74 ?_
          rw [show ((t : Int) - 1) = ((t - 1 : Nat) : Int) by omega]
          refine j_callV hX cv_X5_165 (c_longestOf hPS rfl hR9.1 (i := t - 1) (by omega)) dX5_plain_75 hPS.1 rfl rfl (by exact ⟨Nat.le_of_ble_eq_true rfl, Nat.le_of_ble_eq_true rfl⟩) (by exact ⟨Nat.le_of_ble_eq_true rfl, Nat.le_of_ble_eq_true rfl⟩) (by exact Nat.le_of_ble_eq_true rfl) (fun v75 h75 hp75 => ?_) rfl
          obtain ⟨rfl, rfl⟩ := hp75
          rw [hval]
          refine j_lstore hX dX5_plain_78 (by decide) ?_
          refine j_aload_n hX dX5_plain_80 rfl ?_
          refine j_get hX fl_X5_10_7 dX5_plain_81 hL27.1.2.1.2 (by rfl) ?_
          refine j_callV hX cv_X5_169 (c_tellsAny hL27.1 hO) dX5_plain_84 hL27.1.2.1.1 rfl rfl (by exact ⟨Nat.le_of_ble_eq_true rfl, Nat.le_of_ble_eq_true rfl⟩) (by exact ⟨Nat.le_of_ble_eq_true rfl, Nat.le_of_ble_eq_true rfl⟩) (by exact Nat.le_of_ble_eq_true rfl) (fun v84 h84 hp84 => ?_) rfl
          obtain ⟨⟨y84, rfl, hy84⟩, rfl⟩ := hp84
          have hy2 : y84 = 0 ∨ y84 = 1 := by rcases hy84 with ⟨q9, _⟩ | ⟨q9, _⟩ <;> omega
          refine j_if_eq hX 105 dX5_plain_87 (by decide) (by omega) (fun c87 => ?_) (fun c87 => ?_)
          · refine j_lload hX dX5_plain_105 rfl ?_
            refine j_lload_n hX dX5_plain_107 rfl ?_
            refine j_lcmp_ne hX 116 dX5_plain_108 dX5_plain_109 (by decide) (by omega) (by omega) (fun c108 => ?_) (fun c108 => ?_)
            · refine j_iconst hX dX5_plain_116 ?_
              exact j_zret hX hR dX5_plain_117 (by omega) ⟨⟨0, rfl, Or.inr ⟨rfl, fun q => by have q2 := q.2.2.2.2.2 (fun j j1 j2 => by by_cases e : σ 7 j = -1; exact e; exact absurd (show ∃ t : Nat, 1 ≤ t ∧ t ≤ n ∧ σ 7 t ≠ -1 from ⟨j, j1, j2, e⟩) (show ¬ ∃ t : Nat, 1 ≤ t ∧ t ≤ n ∧ σ 7 t ≠ -1 from by rcases hy84 with ⟨q9, _⟩ | ⟨_, q9⟩; omega; exact q9)); rw [htn] at q2; omega⟩⟩, hL27, (((Fc.rf h AD n m).up (by unfold Lv; omega) _))⟩
            · refine j_iconst hX dX5_plain_112 ?_
              refine j_goto hX 117 dX5_plain_113 (by decide) ?_
              exact j_zret hX hR dX5_plain_117 (by omega) ⟨⟨1, rfl, Or.inl ⟨rfl, hz1, hm0, hR9, by rw [htn]; exact hans, fun q => by rw [htn]; exact absurd q (show ¬ ∃ t : Nat, 1 ≤ t ∧ t ≤ n ∧ σ 7 t ≠ -1 from by rcases hy84 with ⟨q9, _⟩ | ⟨_, q9⟩; omega; exact q9), fun q => by rw [htn]; omega⟩⟩, hL27, (((Fc.rf h AD n m).up (by unfold Lv; omega) _))⟩
          · refine j_lload hX dX5_plain_90 rfl ?_
            refine j_lload_n hX dX5_plain_92 rfl ?_
            refine j_lcmp_gt hX 101 dX5_plain_93 dX5_plain_94 (by decide) (by omega) (by omega) (fun c93 => ?_) (fun c93 => ?_)
            · refine j_iconst hX dX5_plain_101 ?_
              refine j_goto hX 117 dX5_plain_102 (by decide) ?_
              exact j_zret hX hR dX5_plain_117 (by omega) ⟨⟨0, rfl, Or.inr ⟨rfl, fun q => by have q2 := q.2.2.2.2.1 (show ∃ t : Nat, 1 ≤ t ∧ t ≤ n ∧ σ 7 t ≠ -1 from by rcases hy84 with ⟨_, q9⟩ | ⟨q9, _⟩; exact q9; omega); rw [htn] at q2; omega⟩⟩, hL27, (((Fc.rf h AD n m).up (by unfold Lv; omega) _))⟩
            · refine j_iconst hX dX5_plain_97 ?_
              refine j_goto hX 117 dX5_plain_98 (by decide) ?_
              exact j_zret hX hR dX5_plain_117 (by omega) ⟨⟨1, rfl, Or.inl ⟨rfl, hz1, hm0, hR9, by rw [htn]; exact hans, fun q => by rw [htn]; omega, fun q => by rw [htn]; (obtain ⟨j, j1, j2, j3⟩ := (show ∃ t : Nat, 1 ≤ t ∧ t ≤ n ∧ σ 7 t ≠ -1 from by rcases hy84 with ⟨_, q9⟩ | ⟨q9, _⟩; exact q9; omega); exact absurd (q j j1 j2) j3)⟩⟩, hL27, (((Fc.rf h AD n m).up (by unfold Lv; omega) _))⟩
        · refine j_aload_n hX dX5_plain_54 rfl ?_
          refine j_get hX fl_X5_19_7 dX5_plain_55 h_S (by rfl) ?_
          refine j_aload_n hX dX5_plain_58 rfl ?_
          refine j_get hX fl_X5_10_7 dX5_plain_59 h_S (by rfl) ?_
          refine j_get hX fl_X5_36_2 dX5_plain_62 h_C (by rfl) ?_
          refine j_callVv hX cv_X5_161 (c_runAll hC2 hO hR9 hPS) dX5_plain_65 h_P rfl rfl (by exact ⟨Nat.le_of_ble_eq_true rfl, Nat.le_of_ble_eq_true rfl⟩) (by exact ⟨Nat.le_of_ble_eq_true rfl, Nat.le_of_ble_eq_true rfl⟩) (by exact Nat.le_of_ble_eq_true rfl) (fun h65 hp65 => ?_) rfl
          obtain ⟨en1, F1, hPS3, hFp3, hv3⟩ := hp65
          have hC3 : Cr G h65 AD σ n m := hC2.ph hO.1 (hPS3.ph (Or.inr rfl)) (fun a q => hFp3 a q)
          have hL3 : Cl G h65 AD σ n m := ⟨hC3, hL27.2.1.oth (fun o o1 o2 => hFp3 _ (fun k k1 k2 => hC2.inj (by unfold Lv; omega) (by unfold Lv; omega) (by omega))), 1, n, en1, F1 7, hPS3.1, hPS3.b7, Or.inr rfl, fun _ => ⟨hR9, rfl, fun o o1 o2 => by have q := hv3 (o - 1) (by omega); rw [show o - 1 + 1 = o by omega] at q; exact q⟩⟩
          have hF3 : Fc h h65 AD n m := fun a q1 q2 => (hFp3 a (fun k k1 k2 => q2 k (by unfold Lv; omega))).trans (((Fc.rf h AD n m).up (by unfold Lv; omega) _) a q1 q2)
          have hval : F1 7 (t - 1) = plm σ n (endT σ n) t := by have q := hv3 (t - 1) (by omega); rw [show t - 1 + 1 = t by omega] at q; exact q
          have h_S := hC3.2.1.2
          have h_C := hC3.2.1.1
          have h_P := hPS3.1
          refine j_aload_n hX dX5_plain_68 rfl ?_
          refine j_get hX fl_X5_19_7 dX5_plain_69 hL3.1.2.1.2 (by rfl) ?_
          refine j_iload_n hX dX5_plain_72 rfl ?_
          refine j_iconst hX dX5_plain_73 ?_
          refine j_isub hX dX5_plain_74 ?_
          rw [show ((t : Int) - 1) = ((t - 1 : Nat) : Int) by omega]
          refine j_callV hX cv_X5_165 (c_longestOf hPS3 rfl hR9.1 (i := t - 1) (by omega)) dX5_plain_75 hPS3.1 rfl rfl (by exact ⟨Nat.le_of_ble_eq_true rfl, Nat.le_of_ble_eq_true rfl⟩) (by exact ⟨Nat.le_of_ble_eq_true rfl, Nat.le_of_ble_eq_true rfl⟩) (by exact Nat.le_of_ble_eq_true rfl) (fun v75 h75 hp75 => ?_) rfl
          obtain ⟨rfl, rfl⟩ := hp75
          rw [hval]
          refine j_lstore hX dX5_plain_78 (by decide) ?_
          refine j_aload_n hX dX5_plain_80 rfl ?_
          refine j_get hX fl_X5_10_7 dX5_plain_81 hL3.1.2.1.2 (by rfl) ?_
          refine j_callV hX cv_X5_169 (c_tellsAny hL3.1 hO) dX5_plain_84 hL3.1.2.1.1 rfl rfl (by exact ⟨Nat.le_of_ble_eq_true rfl, Nat.le_of_ble_eq_true rfl⟩) (by exact ⟨Nat.le_of_ble_eq_true rfl, Nat.le_of_ble_eq_true rfl⟩) (by exact Nat.le_of_ble_eq_true rfl) (fun v84 h84 hp84 => ?_) rfl
          obtain ⟨⟨y84, rfl, hy84⟩, rfl⟩ := hp84
          have hy2 : y84 = 0 ∨ y84 = 1 := by rcases hy84 with ⟨q9, _⟩ | ⟨q9, _⟩ <;> omega
          refine j_if_eq hX 105 dX5_plain_87 (by decide) (by omega) (fun c87 => ?_) (fun c87 => ?_)
          · refine j_lload hX dX5_plain_105 rfl ?_
            refine j_lload_n hX dX5_plain_107 rfl ?_
            refine j_lcmp_ne hX 116 dX5_plain_108 dX5_plain_109 (by decide) (by omega) (by omega) (fun c108 => ?_) (fun c108 => ?_)
            · refine j_iconst hX dX5_plain_116 ?_
              exact j_zret hX hR dX5_plain_117 (by omega) ⟨⟨0, rfl, Or.inr ⟨rfl, fun q => by have q2 := q.2.2.2.2.2 (fun j j1 j2 => by by_cases e : σ 7 j = -1; exact e; exact absurd (show ∃ t : Nat, 1 ≤ t ∧ t ≤ n ∧ σ 7 t ≠ -1 from ⟨j, j1, j2, e⟩) (show ¬ ∃ t : Nat, 1 ≤ t ∧ t ≤ n ∧ σ 7 t ≠ -1 from by rcases hy84 with ⟨q9, _⟩ | ⟨_, q9⟩; omega; exact q9)); rw [htn] at q2; omega⟩⟩, hL3, hF3⟩
            · refine j_iconst hX dX5_plain_112 ?_
              refine j_goto hX 117 dX5_plain_113 (by decide) ?_
              exact j_zret hX hR dX5_plain_117 (by omega) ⟨⟨1, rfl, Or.inl ⟨rfl, hz1, hm0, hR9, by rw [htn]; exact hans, fun q => by rw [htn]; exact absurd q (show ¬ ∃ t : Nat, 1 ≤ t ∧ t ≤ n ∧ σ 7 t ≠ -1 from by rcases hy84 with ⟨q9, _⟩ | ⟨_, q9⟩; omega; exact q9), fun q => by rw [htn]; omega⟩⟩, hL3, hF3⟩
          · refine j_lload hX dX5_plain_90 rfl ?_
            refine j_lload_n hX dX5_plain_92 rfl ?_
            refine j_lcmp_gt hX 101 dX5_plain_93 dX5_plain_94 (by decide) (by omega) (by omega) (fun c93 => ?_) (fun c93 => ?_)
            · refine j_iconst hX dX5_plain_101 ?_
              refine j_goto hX 117 dX5_plain_102 (by decide) ?_
              exact j_zret hX hR dX5_plain_117 (by omega) ⟨⟨0, rfl, Or.inr ⟨rfl, fun q => by have q2 := q.2.2.2.2.1 (show ∃ t : Nat, 1 ≤ t ∧ t ≤ n ∧ σ 7 t ≠ -1 from by rcases hy84 with ⟨_, q9⟩ | ⟨q9, _⟩; exact q9; omega); rw [htn] at q2; omega⟩⟩, hL3, hF3⟩
            · refine j_iconst hX dX5_plain_97 ?_
              refine j_goto hX 117 dX5_plain_98 (by decide) ?_
              exact j_zret hX hR dX5_plain_117 (by omega) ⟨⟨1, rfl, Or.inl ⟨rfl, hz1, hm0, hR9, by rw [htn]; exact hans, fun q => by rw [htn]; omega, fun q => by rw [htn]; (obtain ⟨j, j1, j2, j3⟩ := (show ∃ t : Nat, 1 ≤ t ∧ t ≤ n ∧ σ 7 t ≠ -1 from by rcases hy84 with ⟨_, q9⟩ | ⟨q9, _⟩; exact q9; omega); exact absurd (q j j1 j2) j3)⟩⟩, hL3, hF3⟩
      · refine j_iconst hX dX5_plain_42 ?_
        exact j_zret hX hR dX5_plain_43 (by omega) ⟨⟨0, rfl, Or.inr ⟨rfl, fun q => by have := q.2.2.2.1; rw [htn] at this; omega⟩⟩, hL27, ((Fc.rf h AD n m).up (by unfold Lv; omega) _)⟩
    · refine j_iconst hX dX5_plain_23 ?_
      exact j_zret hX hR dX5_plain_24 (by omega) ⟨⟨0, rfl, Or.inr ⟨rfl, fun q => by rcases hy17 with ⟨q9, _⟩ | ⟨_, q9⟩; omega; exact q9 ⟨q.2.1, q.2.2.1⟩⟩⟩, hL, Fc.rf h AD n m⟩
  · refine j_aload_n hX dX5_plain_0 rfl ?_
    refine j_get hX fl_X5_10_7 dX5_plain_1 h_S (by rfl) ?_
    refine j_iload_n hX dX5_plain_4 rfl ?_
    refine j_callV hX cv_X5_65 (c_taskOfN hC hO hz hz1) dX5_plain_5 h_C rfl rfl (by exact ⟨Nat.le_of_ble_eq_true rfl, Nat.le_of_ble_eq_true rfl⟩) (by exact ⟨Nat.le_of_ble_eq_true rfl, Nat.le_of_ble_eq_true rfl⟩) (by exact Nat.le_of_ble_eq_true rfl) (fun v5 h5 hp5 => ?_) rfl
    obtain ⟨rfl, rfl⟩ := hp5
    refine j_astore_nN hX dX5_plain_8 (by decide) ?_
    refine j_aload_nN hX dX5_plain_9 rfl ?_
    refine j_ifnullN hX 23 dX5_plain_10 (by decide) ?_
    refine j_iconst hX dX5_plain_23 ?_
    exact j_zret hX hR dX5_plain_24 (by omega) ⟨⟨0, rfl, Or.inr ⟨rfl, fun q => hz1 q.1⟩⟩, hL, Fc.rf h AD n m⟩
