/-! THE CLASS: reason, section -/
set_option maxRecDepth 100000 in
set_option maxHeartbeats 4000000 in
theorem c_partAbove {l : Launch} {G : Gt} {B : Nat} {h : hF} {AD : Nat → Nat} {σ : St} {n m : Nat} (hC : Cr G h AD σ n m) (hO : OK n m σ) {t : Nat} (ht : 1 ≤ t ∧ t ≤ n) {p9 : Int} (hp9 : -100 ≤ p9 ∧ p9 < 2147483648) : Ct l G B yX0_partAbove cX0_partAbove 6 (some (.object "AnswerSums$Part")) 3 0 0 [.ref (AD 0), .ref (AD (20 + 4 * t)), .int (iZ p9)] h (fun v h' => v = (if p9 < 0 then .null else if rowF σ t p9 n ≠ 0 then .ref (AD (20 + 4 * rowF σ t p9 n)) else if p9 - cntA σ t n < m then .ref (AD (101 + (p9 - cntA σ t n).toNat)) else .null) ∧ h = h') := by
  refine Ct.of (by decide) (Nat.le_of_ble_eq_true rfl) ?_
  intro p e s m9 below meth c A hX hR hin
  have hn16 := hO.1
  have hm8 := hO.2.1
  have h_C := hC.2.1.1
  have hTL := hC.2.2.1
  have hIL := hC.2.2.2.1
  have hTL9 := hTL
  obtain ⟨mcT, capT, gT, h_TL, -⟩ := hTL9
  have hIL9 := hIL
  obtain ⟨mcI, capI, gI9, h_IL, -⟩ := hIL9
  have h_T := hC.task ht
  refine J_abs (J0 := J p l e _ s m9 _ below meth c _ _ G A) ?_
  intro JX hji hjo
  have lp : 0 ≤ p9 → ∀ (d o : Nat) (be : Int), d + o = n → be = p9 - cntA σ t o → 0 ≤ be → JX 0 0 11 [(0, .ref (AD 0)), (1, .ref (AD (20 + 4 * t))), (2, .int (iZ p9)), (3, .int (iZ be)), (4, .int (iZ ((o : Nat) : Int)))] [] h := by
    intro hp0 d
    induction d with
    | zero =>
      intro o be hd hbe hb0
      have hrn := rowF_no (σ := σ) (t := t) (p := p9) n (by rw [show o = n by omega] at hbe; omega)
      have hon : o = n := by omega
      subst hon
      have hcb := cntA_b σ t o
      refine hji ?_
      refine j_iload hX dX0_partAbove_11 rfl ?_
      refine j_aload_n hX dX0_partAbove_13 rfl ?_
      refine j_get hX fl_X0_12_2 dX0_partAbove_14 h_C (by rfl) ?_
      refine j_callV hX cv_X0_25 (c_size hTL) dX0_partAbove_17 h_TL rfl rfl (by exact ⟨Nat.le_of_ble_eq_true rfl, Nat.le_of_ble_eq_true rfl⟩) (by exact ⟨Nat.le_of_ble_eq_true rfl, Nat.le_of_ble_eq_true rfl⟩) (by exact Nat.le_of_ble_eq_true rfl) (fun v17 h17 hp17 => ?_) rfl
      obtain ⟨rfl, rfl⟩ := hp17
      refine j_icmp_ge hX 62 dX0_partAbove_20 (by decide) (by omega) (by omega) (fun c20 => ?_) (fun c20 => absurd c20 (by omega))
      refine j_iload_n hX dX0_partAbove_62 rfl ?_
      refine j_aload_n hX dX0_partAbove_63 rfl ?_
      refine j_get hX fl_X0_18_2 dX0_partAbove_64 h_C (by rfl) ?_
      refine j_callV hX cv_X0_25 (c_size hIL) dX0_partAbove_67 h_IL rfl rfl (by exact ⟨Nat.le_of_ble_eq_true rfl, Nat.le_of_ble_eq_true rfl⟩) (by exact ⟨Nat.le_of_ble_eq_true rfl, Nat.le_of_ble_eq_true rfl⟩) (by exact Nat.le_of_ble_eq_true rfl) (fun v67 h67 hp67 => ?_) rfl
      obtain ⟨rfl, rfl⟩ := hp67
      refine j_icmp_ge hX 87 dX0_partAbove_70 (by decide) (by omega) (by omega) (fun c70 => ?_) (fun c70 => ?_)
      · refine j_null hX dX0_partAbove_87 ?_
        exact j_aret hX hR (Or.inl ⟨_, rfl⟩) dX0_partAbove_88 (Or.inl rfl) ⟨by rw [if_neg (by omega), if_neg (by omega), if_neg (by omega)], rfl⟩
      · obtain ⟨i9, hi9⟩ : ∃ i9 : Nat, be = (i9 : Int) := ⟨be.toNat, by omega⟩
        rw [hi9]
        have h_I : h (AD (101 + i9)) = some (.inr (4, IF σ (i9 + 1))) := by have z9 := hC.intr (i := i9 + 1) ⟨by omega, by omega⟩; rw [show 100 + (i9 + 1) = 101 + i9 by omega] at z9; exact z9
        refine j_aload_n hX dX0_partAbove_73 rfl ?_
        refine j_get hX fl_X0_18_2 dX0_partAbove_74 h_C (by rfl) ?_
        refine j_iload_n hX dX0_partAbove_77 rfl ?_
        refine j_callV hX cv_X0_29 (c_get hIL (by omega) (i := i9) (by omega) rfl) dX0_partAbove_78 h_IL rfl rfl (by exact ⟨Nat.le_of_ble_eq_true rfl, Nat.le_of_ble_eq_true rfl⟩) (by exact ⟨Nat.le_of_ble_eq_true rfl, Nat.le_of_ble_eq_true rfl⟩) (by exact Nat.le_of_ble_eq_true rfl) (fun v78 h78 hp78 => ?_) rfl
        obtain ⟨rfl, rfl⟩ := hp78
        refine j_castS hX ck_X0_70 dX0_partAbove_81 h_I rfl ?_
        refine j_goto hX 88 dX0_partAbove_84 (by decide) ?_
        exact j_aret hX hR (Or.inl ⟨_, rfl⟩) dX0_partAbove_88 (Or.inr ⟨_, rfl⟩) ⟨by rw [if_neg (by omega), if_neg (by omega), if_pos (by omega), ← hbe, hi9]; rfl, rfl⟩
    | succ d ih =>
      intro o be hd hbe hb0
      have h_O := hC.task (t := o + 1) ⟨by omega, by omega⟩
      have e9 : 20 + 4 * (o + 1) = 24 + 4 * o := by omega
      have hcb := cntA_b σ t o
      have hcs : cntA σ t (o + 1) = cntA σ t o + if o + 1 ≠ t ∧ σ 2 t ≤ σ 2 (o + 1) then 1 else 0 := rfl
      refine hji ?_
      refine j_iload hX dX0_partAbove_11 rfl ?_
      refine j_aload_n hX dX0_partAbove_13 rfl ?_
      refine j_get hX fl_X0_12_2 dX0_partAbove_14 h_C (by rfl) ?_
      refine j_callV hX cv_X0_25 (c_size hTL) dX0_partAbove_17 h_TL rfl rfl (by exact ⟨Nat.le_of_ble_eq_true rfl, Nat.le_of_ble_eq_true rfl⟩) (by exact ⟨Nat.le_of_ble_eq_true rfl, Nat.le_of_ble_eq_true rfl⟩) (by exact Nat.le_of_ble_eq_true rfl) (fun v17 h17 hp17 => ?_) rfl
      obtain ⟨rfl, rfl⟩ := hp17
      refine j_icmp_ge hX 62 dX0_partAbove_20 (by decide) (by omega) (by omega) (fun c20 => absurd c20 (by omega)) (fun c20 => ?_)
      refine j_aload_n hX dX0_partAbove_23 rfl ?_
      refine j_get hX fl_X0_12_2 dX0_partAbove_24 h_C (by rfl) ?_
      refine j_iload hX dX0_partAbove_27 rfl ?_
      refine j_callV hX cv_X0_29 (c_get hTL (by omega) (i := o) (x := AD (20 + 4 * (o + 1))) (by omega) (by rw [e9])) dX0_partAbove_29 h_TL rfl rfl (by exact ⟨Nat.le_of_ble_eq_true rfl, Nat.le_of_ble_eq_true rfl⟩) (by exact ⟨Nat.le_of_ble_eq_true rfl, Nat.le_of_ble_eq_true rfl⟩) (by exact Nat.le_of_ble_eq_true rfl) (fun v29 h29 hp29 => ?_) rfl
      obtain ⟨rfl, rfl⟩ := hp29
      refine j_castS hX ck_X0_33 dX0_partAbove_32 h_O rfl ?_
      refine j_astore hX dX0_partAbove_35 (by decide) ?_
      refine j_aload hX dX0_partAbove_37 rfl ?_
      refine j_aload_n hX dX0_partAbove_39 rfl ?_
      refine j_callV hX cv_X0_66 (c_isAbove hC hO (o := (o + 1)) (t := t) ⟨by omega, by omega⟩ ht) dX0_partAbove_40 h_O rfl rfl (by exact ⟨Nat.le_of_ble_eq_true rfl, Nat.le_of_ble_eq_true rfl⟩) (by exact ⟨Nat.le_of_ble_eq_true rfl, Nat.le_of_ble_eq_true rfl⟩) (by exact Nat.le_of_ble_eq_true rfl) (fun v40 h40 hp40 => ?_) rfl
      obtain ⟨⟨y40, rfl, hy40⟩, rfl⟩ := hp40
      refine j_if_eq hX 56 dX0_partAbove_43 (by decide) (by omega) (fun c43 => ?_) (fun c43 => ?_)
      · refine j_iinc hX dX0_partAbove_56 rfl (by decide) ?_
        refine j_goto hX 11 dX0_partAbove_59 (by decide) ?_
        exact j_at (L' := [(0, .ref (AD 0)), (1, .ref (AD (20 + 4 * t))), (2, .int (iZ p9)), (3, .int (iZ _)), (4, .int (iZ (((o + 1) : Nat) : Int)))]) (hjo (ih (o + 1) _ (by omega) (by rw [hcs, if_neg (by omega)]; omega) (by omega))) ⟨rfl, rfl, rfl, rfl, rfl, trivial⟩
      · refine j_iload_n hX dX0_partAbove_46 rfl ?_
        refine j_if_ne hX 53 dX0_partAbove_47 (by decide) (by omega) (fun c47 => ?_) (fun c47 => ?_)
        · refine j_iinc hX dX0_partAbove_53 rfl (by decide) ?_
          refine j_iinc hX dX0_partAbove_56 rfl (by decide) ?_
          refine j_goto hX 11 dX0_partAbove_59 (by decide) ?_
          exact j_at (L' := [(0, .ref (AD 0)), (1, .ref (AD (20 + 4 * t))), (2, .int (iZ p9)), (3, .int (iZ _)), (4, .int (iZ (((o + 1) : Nat) : Int)))]) (hjo (ih (o + 1) _ (by omega) (by rw [hcs, if_pos (by omega)]; omega) (by omega))) ⟨rfl, rfl, rfl, rfl, rfl, trivial⟩
        · refine j_aload hX dX0_partAbove_50 rfl ?_
          have hr1 : rowF σ t p9 (o + 1) = o + 1 := by
            show (if (o + 1 ≠ t ∧ σ 2 t ≤ σ 2 (o + 1)) ∧ cntA σ t o = p9 then o + 1 else rowF σ t p9 o) = o + 1
            exact if_pos ⟨by omega, by omega⟩
          have hr2 := rowF_stay (σ := σ) (t := t) (p := p9) (o := o + 1) (by rw [hcs, if_pos (by omega)]; omega) d
          rw [show o + 1 + d = n by omega, hr1] at hr2
          exact j_aret hX hR (Or.inl ⟨_, rfl⟩) dX0_partAbove_52 (Or.inr ⟨_, rfl⟩) ⟨by rw [if_neg (by omega), hr2, if_pos (by omega)], rfl⟩
  refine hji ?_
  refine j_iload_n hX dX0_partAbove_0 rfl ?_
  refine j_if_ge hX 6 dX0_partAbove_1 (by decide) (by omega) (fun c1 => ?_) (fun c1 => ?_)
  · refine j_iload_n hX dX0_partAbove_6 rfl ?_
    refine j_istore_n hX dX0_partAbove_7 (by decide) ?_
    refine j_iconst hX dX0_partAbove_8 ?_
    refine j_istore hX dX0_partAbove_9 (by decide) ?_
    exact j_at (L' := [(0, .ref (AD 0)), (1, .ref (AD (20 + 4 * t))), (2, .int (iZ p9)), (3, .int (iZ _)), (4, .int (iZ ((0 : Nat) : Int)))]) (hjo (lp (by omega) n 0 _ (by omega) (by show _ = p9 - 0; omega) (by omega))) ⟨rfl, rfl, rfl, rfl, rfl, trivial⟩
  · refine j_null hX dX0_partAbove_4 ?_
    exact j_aret hX hR (Or.inl ⟨_, rfl⟩) dX0_partAbove_5 (Or.inl rfl) ⟨by rw [if_pos (by omega)], rfl⟩
theorem c_partAboveN {l : Launch} {G : Gt} {B : Nat} {h : hF} {AD : Nat → Nat} {σ : St} {n m : Nat} (hC : Cr G h AD σ n m) (hO : OK n m σ) {t : Nat} (ht : 1 ≤ t ∧ t ≤ n) {p9 : Int} (hp9 : -100 ≤ p9 ∧ p9 < 2147483648) (hq : p9 < 0 ∨ (rowF σ t p9 n = 0 ∧ ¬ p9 - cntA σ t n < m)) : Ct l G B yX0_partAbove cX0_partAbove 6 (some (.object "AnswerSums$Part")) 3 0 0 [.ref (AD 0), .ref (AD (20 + 4 * t)), .int (iZ p9)] h (fun v h' => v = .null ∧ h = h') := Ct.mono (c_partAbove hC hO ht hp9) (fun v h' hv => ⟨by rw [hv.1]; rcases hq with q | ⟨q1, q2⟩; rw [if_pos q]; (by_cases q3 : p9 < 0; rw [if_pos q3]; rw [if_neg q3, if_neg (fun z => z q1), if_neg q2]), hv.2⟩)
theorem c_partAboveT {l : Launch} {G : Gt} {B : Nat} {h : hF} {AD : Nat → Nat} {σ : St} {n m : Nat} (hC : Cr G h AD σ n m) (hO : OK n m σ) {t : Nat} (ht : 1 ≤ t ∧ t ≤ n) {p9 : Int} (hp9 : -100 ≤ p9 ∧ p9 < 2147483648) (hq : 0 ≤ p9) (hq2 : rowF σ t p9 n ≠ 0) : Ct l G B yX0_partAbove cX0_partAbove 6 (some (.object "AnswerSums$Part")) 3 0 0 [.ref (AD 0), .ref (AD (20 + 4 * t)), .int (iZ p9)] h (fun v h' => v = .ref (AD (20 + 4 * rowF σ t p9 n)) ∧ h = h') := Ct.mono (c_partAbove hC hO ht hp9) (fun v h' hv => ⟨by rw [hv.1, if_neg (by omega), if_pos hq2], hv.2⟩)
theorem c_partAboveI {l : Launch} {G : Gt} {B : Nat} {h : hF} {AD : Nat → Nat} {σ : St} {n m : Nat} (hC : Cr G h AD σ n m) (hO : OK n m σ) {t : Nat} (ht : 1 ≤ t ∧ t ≤ n) {p9 : Int} (hp9 : -100 ≤ p9 ∧ p9 < 2147483648) (hq : 0 ≤ p9) (hq2 : rowF σ t p9 n = 0) (hq3 : p9 - cntA σ t n < m) : Ct l G B yX0_partAbove cX0_partAbove 6 (some (.object "AnswerSums$Part")) 3 0 0 [.ref (AD 0), .ref (AD (20 + 4 * t)), .int (iZ p9)] h (fun v h' => v = .ref (AD (101 + (p9 - cntA σ t n).toNat)) ∧ h = h') := Ct.mono (c_partAbove hC hO ht hp9) (fun v h' hv => ⟨by rw [hv.1, if_neg (by omega), if_neg (fun z => z hq2), if_pos hq3], hv.2⟩)
def rowI (tu c b row what : Int) : Int := if what = 1 then (if row = 0 then (tu + 1) * c else b) else 0
set_option maxRecDepth 100000 in
set_option maxHeartbeats 4000000 in
theorem c_rowOfItself {l : Launch} {G : Gt} {B : Nat} {h : hF} {AD : Nat → Nat} {σ : St} {n m : Nat} (hC : Cr G h AD σ n m) (hO : OK n m σ) {t : Nat} (ht : 1 ≤ t ∧ t ≤ n) {a9 b9 tu9 sp9 i what : Int} (h_F : h (AD (23 + 4 * t)) = some (.inr (3, FF4 a9 b9 tu9 sp9))) (htu : 0 ≤ tu9 ∧ tu9 ≤ 500) (hi : -2147483648 ≤ i ∧ i < 2147483648) (hw : -2147483648 ≤ what ∧ what < 2147483648) : Ct l G B yX5_rowOfItself cX5_rowOfItself 4 (some .long) 4 0 0 [.ref (AD 15), .ref (AD (20 + 4 * t)), .int (iZ i), .int (iZ what)] h (fun v h' => v = .long (lZ (rowI tu9 (cosT σ t) (blk σ n t) i what)) ∧ h = h') := by
  refine Ct.of (by decide) (Nat.le_of_ble_eq_true rfl) ?_
  intro p e s m9 below meth c A hX hR hin
  have hn16 := hO.1
  have hm8 := hO.2.1
  have h_C := hC.2.1.1
  have hTL := hC.2.2.1
  have hIL := hC.2.2.2.1
  have hTL9 := hTL
  obtain ⟨mcT, capT, gT, h_TL, -⟩ := hTL9
  have hIL9 := hIL
  obtain ⟨mcI, capI, gI9, h_IL, -⟩ := hIL9
  have h_S := hC.2.1.2
  have h_T := hC.task ht
  refine j_iload_n hX dX5_rowOfItself_0 rfl ?_
  refine j_iconst hX dX5_rowOfItself_1 ?_
  refine j_icmp_eq hX 7 dX5_rowOfItself_2 (by decide) (by omega) (by omega) (fun c2 => ?_) (fun c2 => ?_)
  · refine j_iload_n hX dX5_rowOfItself_7 rfl ?_
    refine j_if_ne hX 29 dX5_rowOfItself_8 (by decide) (by omega) (fun c8 => ?_) (fun c8 => ?_)
    · refine j_aload_n hX dX5_rowOfItself_29 rfl ?_
      refine j_get hX fl_X5_10_7 dX5_rowOfItself_30 h_S (by rfl) ?_
      refine j_aload_n hX dX5_rowOfItself_33 rfl ?_
      refine j_callV hX cv_X5_197 (c_blockingOf hC hO ht) dX5_rowOfItself_34 h_C rfl rfl (by exact ⟨Nat.le_of_ble_eq_true rfl, Nat.le_of_ble_eq_true rfl⟩) (by exact ⟨Nat.le_of_ble_eq_true rfl, Nat.le_of_ble_eq_true rfl⟩) (by exact Nat.le_of_ble_eq_true rfl) (fun v34 h34 hp34 => ?_) rfl
      obtain ⟨rfl, rfl⟩ := hp34
      exact j_lret hX hR dX5_rowOfItself_37 ⟨by unfold rowI; (repeat' split) <;> first | rfl | (exfalso; omega), rfl⟩
    · refine j_aload_n hX dX5_rowOfItself_11 rfl ?_
      refine j_get hX fl_X5_183_6 dX5_rowOfItself_12 h_T (by rfl) ?_
      refine j_get hX fl_X5_191_3 dX5_rowOfItself_15 h_F (by rfl) ?_
      refine j_iconst hX dX5_rowOfItself_18 ?_
      refine j_iadd hX dX5_rowOfItself_19 ?_
      refine j_i2l hX dX5_rowOfItself_20 (by omega) ?_
      refine j_aload_n hX dX5_rowOfItself_21 rfl ?_
      refine j_callU hX cu_X5_194_6 (c_costT hC ht) dX5_rowOfItself_22 h_T rfl rfl (by exact ⟨Nat.le_of_ble_eq_true rfl, Nat.le_of_ble_eq_true rfl⟩) (by exact ⟨Nat.le_of_ble_eq_true rfl, Nat.le_of_ble_eq_true rfl⟩) (by exact Nat.le_of_ble_eq_true rfl) (fun v22 h22 hp22 => ?_) rfl
      obtain ⟨rfl, rfl⟩ := hp22
      refine j_lmul hX dX5_rowOfItself_25 ?_
      refine j_goto hX 37 dX5_rowOfItself_26 (by decide) ?_
      exact j_lret hX hR dX5_rowOfItself_37 ⟨by unfold rowI; (repeat' split) <;> first | rfl | (exfalso; omega), rfl⟩
  · refine j_lconst0 hX dX5_rowOfItself_5 ?_
    exact j_lret hX hR dX5_rowOfItself_6 ⟨by unfold rowI; (repeat' split) <;> first | rfl | (exfalso; omega), rfl⟩
def rowP (what a c w : Int) : Int := if what = 2 then w else if what = 0 then a else a * c
set_option maxRecDepth 100000 in
set_option maxHeartbeats 4000000 in
theorem c_rowOfPartT {l : Launch} {G : Gt} {B : Nat} {h : hF} {AD : Nat → Nat} {σ : St} {n m : Nat} (hC : Cr G h AD σ n m) (hO : OK n m σ) {o : Nat} (ho : 1 ≤ o ∧ o ≤ n) {w9 what : Int} (hw9 : 0 ≤ w9 ∧ w9 ≤ 40000) (hw : -2147483648 ≤ what ∧ what < 2147483648) : Ct l G B yX5_rowOfPart cX5_rowOfPart 7 (some .long) 3 0 0 [.ref (AD 15), .ref (AD (20 + 4 * o)), .long (lZ w9), .int (iZ what)] h (fun v h' => v = .long (lZ (rowP what (actT σ o w9) (cosT σ o) (o : Int))) ∧ h = h') := by
  refine Ct.of (by decide) (Nat.le_of_ble_eq_true rfl) ?_
  intro p e s m9 below meth c A hX hR hin
  have hn16 := hO.1
  have hm8 := hO.2.1
  have h_C := hC.2.1.1
  have hTL := hC.2.2.1
  have hIL := hC.2.2.2.1
  have hTL9 := hTL
  obtain ⟨mcT, capT, gT, h_TL, -⟩ := hTL9
  have hIL9 := hIL
  obtain ⟨mcI, capI, gI9, h_IL, -⟩ := hIL9
  have h_T := hC.task ho
  obtain ⟨a0, a1, a2, a3, a4, a5, a6, a7, a8, a9⟩ := hO.2.2.1 o ho.1 ho.2
  refine j_iload hX dX5_rowOfPart_0 rfl ?_
  refine j_iconst hX dX5_rowOfPart_2 ?_
  refine j_icmp_ne hX 12 dX5_rowOfPart_3 (by decide) (by omega) (by omega) (fun c3 => ?_) (fun c3 => ?_)
  · refine j_aload_n hX dX5_rowOfPart_12 rfl ?_
    refine j_lload_n hX dX5_rowOfPart_13 rfl ?_
    refine j_callU hX cu_X5_204_6 (c_acts (hC.taskP ho) (hO.2.2.1 o ho.1 ho.2).P (by omega)) dX5_rowOfPart_14 h_T rfl rfl (by exact ⟨Nat.le_of_ble_eq_true rfl, Nat.le_of_ble_eq_true rfl⟩) (by exact ⟨Nat.le_of_ble_eq_true rfl, Nat.le_of_ble_eq_true rfl⟩) (by exact Nat.le_of_ble_eq_true rfl) (fun v14 h14 hp14 => ?_) rfl
    obtain ⟨rfl, rfl⟩ := hp14
    refine j_lstore hX dX5_rowOfPart_17 (by decide) ?_
    refine j_iload hX dX5_rowOfPart_19 rfl ?_
    refine j_if_ne hX 29 dX5_rowOfPart_21 (by decide) (by omega) (fun c21 => ?_) (fun c21 => ?_)
    · refine j_lload hX dX5_rowOfPart_29 rfl ?_
      refine j_aload_n hX dX5_rowOfPart_31 rfl ?_
      refine j_callU hX cu_X5_208_6 (c_cost (hC.taskP ho)) dX5_rowOfPart_32 h_T rfl rfl (by exact ⟨Nat.le_of_ble_eq_true rfl, Nat.le_of_ble_eq_true rfl⟩) (by exact ⟨Nat.le_of_ble_eq_true rfl, Nat.le_of_ble_eq_true rfl⟩) (by exact Nat.le_of_ble_eq_true rfl) (fun v32 h32 hp32 => ?_) rfl
      obtain ⟨rfl, rfl⟩ := hp32
      refine j_lmul hX dX5_rowOfPart_35 ?_
      exact j_lret hX hR dX5_rowOfPart_36 ⟨by unfold rowP; (repeat' split) <;> first | (exfalso; omega) | (rfl), rfl⟩
    · refine j_lload hX dX5_rowOfPart_24 rfl ?_
      refine j_goto hX 36 dX5_rowOfPart_26 (by decide) ?_
      exact j_lret hX hR dX5_rowOfPart_36 ⟨by unfold rowP; (repeat' split) <;> first | (exfalso; omega) | (rfl), rfl⟩
  · refine j_aload_n hX dX5_rowOfPart_6 rfl ?_
    refine j_get hX fl_X5_201_6 dX5_rowOfPart_7 h_T (by rfl) ?_
    refine j_i2l hX dX5_rowOfPart_10 (by omega) ?_
    exact j_lret hX hR dX5_rowOfPart_11 ⟨by unfold rowP; (repeat' split) <;> first | (exfalso; omega) | (rfl), rfl⟩
set_option maxRecDepth 100000 in
set_option maxHeartbeats 4000000 in
theorem c_rowOfPartI {l : Launch} {G : Gt} {B : Nat} {h : hF} {AD : Nat → Nat} {σ : St} {n m : Nat} (hC : Cr G h AD σ n m) (hO : OK n m σ) {o : Nat} (ho : o < m) {w9 what : Int} (hw9 : 0 ≤ w9 ∧ w9 ≤ 40000) (hw : -2147483648 ≤ what ∧ what < 2147483648) : Ct l G B yX5_rowOfPart cX5_rowOfPart 7 (some .long) 3 0 0 [.ref (AD 15), .ref (AD (101 + o)), .long (lZ w9), .int (iZ what)] h (fun v h' => v = .long (lZ (rowP what (upw w9 (σ 13 (o + 1))) (σ 12 (o + 1)) (-((o + 1 : Nat) : Int)))) ∧ h = h') := by
  refine Ct.of (by decide) (Nat.le_of_ble_eq_true rfl) ?_
  intro p e s m9 below meth c A hX hR hin
  have hn16 := hO.1
  have hm8 := hO.2.1
  have h_C := hC.2.1.1
  have hTL := hC.2.2.1
  have hIL := hC.2.2.2.1
  have hTL9 := hTL
  obtain ⟨mcT, capT, gT, h_TL, -⟩ := hTL9
  have hIL9 := hIL
  obtain ⟨mcI, capI, gI9, h_IL, -⟩ := hIL9
  have h_I : h (AD (101 + o)) = some (.inr (4, IF σ (o + 1))) := by have z9 := hC.intr (i := o + 1) ⟨by omega, by omega⟩; rw [show 100 + (o + 1) = 101 + o by omega] at z9; exact z9
  have hP9 := hC.intrP (i := o + 1) ⟨by omega, by omega⟩
  rw [show 100 + (o + 1) = 101 + o by omega] at hP9
  have hOi := hO.2.2.2 (o + 1) (by omega) (by omega)
  have ha1 := acts_1 (per := σ 13 (o + 1)) (w := w9) hOi.2.1 (by omega)
  refine j_iload hX dX5_rowOfPart_0 rfl ?_
  refine j_iconst hX dX5_rowOfPart_2 ?_
  refine j_icmp_ne hX 12 dX5_rowOfPart_3 (by decide) (by omega) (by omega) (fun c3 => ?_) (fun c3 => ?_)
  · refine j_aload_n hX dX5_rowOfPart_12 rfl ?_
    refine j_lload_n hX dX5_rowOfPart_13 rfl ?_
    refine j_callV hX cv_X5_204 (c_acts hP9 hOi.P (by omega)) dX5_rowOfPart_14 h_I rfl rfl (by exact ⟨Nat.le_of_ble_eq_true rfl, Nat.le_of_ble_eq_true rfl⟩) (by exact ⟨Nat.le_of_ble_eq_true rfl, Nat.le_of_ble_eq_true rfl⟩) (by exact Nat.le_of_ble_eq_true rfl) (fun v14 h14 hp14 => ?_) rfl
    obtain ⟨rfl, rfl⟩ := hp14
    refine j_lstore hX dX5_rowOfPart_17 (by decide) ?_
    refine j_iload hX dX5_rowOfPart_19 rfl ?_
    refine j_if_ne hX 29 dX5_rowOfPart_21 (by decide) (by omega) (fun c21 => ?_) (fun c21 => ?_)
    · refine j_lload hX dX5_rowOfPart_29 rfl ?_
      refine j_aload_n hX dX5_rowOfPart_31 rfl ?_
      refine j_callV hX cv_X5_208 (c_cost hP9) dX5_rowOfPart_32 h_I rfl rfl (by exact ⟨Nat.le_of_ble_eq_true rfl, Nat.le_of_ble_eq_true rfl⟩) (by exact ⟨Nat.le_of_ble_eq_true rfl, Nat.le_of_ble_eq_true rfl⟩) (by exact Nat.le_of_ble_eq_true rfl) (fun v32 h32 hp32 => ?_) rfl
      obtain ⟨rfl, rfl⟩ := hp32
      refine j_lmul hX dX5_rowOfPart_35 ?_
      exact j_lret hX hR dX5_rowOfPart_36 ⟨by unfold rowP; (repeat' split) <;> first | (exfalso; omega) | (first | rfl | (rw [ha1, Int.add_zero]) | rw [ha1]), rfl⟩
    · refine j_lload hX dX5_rowOfPart_24 rfl ?_
      refine j_goto hX 36 dX5_rowOfPart_26 (by decide) ?_
      exact j_lret hX hR dX5_rowOfPart_36 ⟨by unfold rowP; (repeat' split) <;> first | (exfalso; omega) | (first | rfl | (rw [ha1, Int.add_zero]) | rw [ha1]), rfl⟩
  · refine j_aload_n hX dX5_rowOfPart_6 rfl ?_
    refine j_get hX fl_X5_201_4 dX5_rowOfPart_7 h_I (by rfl) ?_
    refine j_i2l hX dX5_rowOfPart_10 (by omega) ?_
    exact j_lret hX hR dX5_rowOfPart_11 ⟨by unfold rowP; (repeat' split) <;> first | (exfalso; omega) | (first | rfl | (rw [ha1, Int.add_zero]) | rw [ha1]), rfl⟩
set_option maxRecDepth 100000 in
set_option maxHeartbeats 4000000 in
theorem c_reason {l : Launch} {G : Gt} {B : Nat} {h : hF} {AD : Nat → Nat} {σ : St} {n m : Nat} (hL : Cl G h AD σ n m) (hO : OK n m σ) {z : Int} (hz : -2147483648 ≤ z ∧ z < 2147483648) {i : Int} (hi9 : -2147483648 ≤ i ∧ i < 2147483648) {what : Int} (hwhat9 : -2147483648 ≤ what ∧ what < 2147483648) : Ct l G B yX5_reason cX5_reason 7 (some .int) 7 0 0 [.ref (AD 15), .int (iZ z), .int (iZ i), .int (iZ what)] h (fun v h' => v = .int (iZ (rsnF σ n m z i what)) ∧ Cl G h' AD σ n m ∧ Fc h h' AD n m) := by
  refine Ct.of (by decide) (Nat.le_of_ble_eq_true rfl) ?_
  intro p e s m9 below meth c A hX hR hin
  have hC := hL.1
  have hn16 := hO.1
  have hm8 := hO.2.1
  have h_C := hC.2.1.1
  have hTL := hC.2.2.1
  have hIL := hC.2.2.2.1
  have hTL9 := hTL
  obtain ⟨mcT, capT, gT, h_TL, -⟩ := hTL9
  have hIL9 := hIL
  obtain ⟨mcI, capI, gI9, h_IL, -⟩ := hIL9
  have h_S := hC.2.1.2
  by_cases hz1 : 1 ≤ z ∧ z ≤ (n : Int)
  · obtain ⟨t, rfl⟩ : ∃ t : Nat, z = (t : Int) := ⟨z.toNat, by omega⟩
    have ht : 1 ≤ t ∧ t ≤ n := by omega
    have htn : (t : Int).toNat = t := rfl
    refine j_aload_n hX dX5_reason_0 rfl ?_
    refine j_get hX fl_X5_10_7 dX5_reason_1 h_S (by rfl) ?_
    refine j_iload_n hX dX5_reason_4 rfl ?_
    refine j_callV hX cv_X5_65 (c_taskOfT hC hO ht) dX5_reason_5 h_C rfl rfl (by exact ⟨Nat.le_of_ble_eq_true rfl, Nat.le_of_ble_eq_true rfl⟩) (by exact ⟨Nat.le_of_ble_eq_true rfl, Nat.le_of_ble_eq_true rfl⟩) (by exact Nat.le_of_ble_eq_true rfl) (fun v5 h5 hp5 => ?_) rfl
    obtain ⟨rfl, rfl⟩ := hp5
    have h_T := hC.task ht
    refine j_astore hX dX5_reason_8 (by decide) ?_
    refine j_aload hX dX5_reason_10 rfl ?_
    refine j_ifnull hX dX5_reason_12 ?_
    refine j_iload_n hX dX5_reason_15 rfl ?_
    refine j_if_ge hX 21 dX5_reason_16 (by decide) (by omega) (fun c16 => ?_) (fun c16 => ?_)
    · refine j_aload_n hX dX5_reason_21 rfl ?_
      refine j_aload hX dX5_reason_22 rfl ?_
      refine j_callV hX cv_X5_107 (c_findingOf hL hO ht) dX5_reason_24 h_S rfl rfl (by exact ⟨Nat.le_of_ble_eq_true rfl, Nat.le_of_ble_eq_true rfl⟩) (by exact ⟨Nat.le_of_ble_eq_true rfl, Nat.le_of_ble_eq_true rfl⟩) (by exact Nat.le_of_ble_eq_true rfl) (fun v24 h24 hp24 => ?_) rfl
      obtain ⟨rfl, tu24, sp24, rfl, hr24⟩ := hp24
      have hL24 := hL.set hO.1 ht hr24
      have h_F : hup h (AD (23 + 4 * t)) (.inr (3, FF4 1 (ansF σ n m t).1 tu24 sp24)) (AD (23 + 4 * t)) = _ := hup_eq _ _ _
      refine j_astore hX dX5_reason_27 (by decide) ?_
      refine j_aload hX dX5_reason_29 rfl ?_
      refine j_get hX fl_X5_111_3 dX5_reason_31 h_F (by rfl) ?_
      refine j_ldc2 hX k_X5_97 (z := -1) (by decide) dX5_reason_34 ?_
      refine j_lcmp_ne hX 43 dX5_reason_37 dX5_reason_38 (by decide) (by have := ans_b hO ht; omega) (by omega) (fun c37 => ?_) (fun c37 => ?_)
      · have hans : (ansF σ n m t).1 ≠ -1 := by omega
        have hC2 := hL24.1
        have h_S := hC2.2.1.2
        have h_C := hC2.2.1.1
        have h_T := hC2.task ht
        obtain ⟨htu9, hsp9⟩ := hr24 hans
        have hAB : (0 ≤ (ansF σ n m t).2.1 ∧ (ansF σ n m t).2.1 < 500) ∧ (1 ≤ (ansF σ n m t).2.2 ∧ (ansF σ n m t).2.2 ≤ 40000) := by rcases ansF_b σ n m t with z9 | z9; exact absurd z9 hans; exact z9.2
        have hbb := blk_b (t := t) hO
        obtain ⟨a0, a1, a2, a3, a4, a5, a6, a7, a8, a9⟩ := hO.2.2.1 t (by omega) (by omega)
        have hcc : 0 ≤ cosT σ t ∧ cosT σ t ≤ 2000 := by unfold cosT; omega
        have hmu := mulb (a := tu24 + 1) (A := 500) (by omega) hcc
        have hcb := cntA_b σ t n
        have hrl := rowF_le σ t (i - 2) n
        by_cases hi2 : i < 2
        · refine j_aload_n hX dX5_reason_43 rfl ?_
          refine j_get hX fl_X5_10_7 dX5_reason_44 h_S (by rfl) ?_
          refine j_aload hX dX5_reason_47 rfl ?_
          refine j_iload_n hX dX5_reason_49 rfl ?_
          refine j_iconst hX dX5_reason_50 ?_
          refine j_isub hX dX5_reason_51 ?_
          refine j_callV hX cv_X5_114 (c_partAboveN hC2 hO ht (by omega) (Or.inl (by omega))) dX5_reason_52 h_C rfl rfl (by exact ⟨Nat.le_of_ble_eq_true rfl, Nat.le_of_ble_eq_true rfl⟩) (by exact ⟨Nat.le_of_ble_eq_true rfl, Nat.le_of_ble_eq_true rfl⟩) (by exact Nat.le_of_ble_eq_true rfl) (fun v52 h52 hp52 => ?_) rfl
          obtain ⟨rfl, rfl⟩ := hp52
          refine j_astoreN hX dX5_reason_55 (by decide) ?_
          refine j_iload_n hX dX5_reason_57 rfl ?_
          refine j_iconst hX dX5_reason_58 ?_
          refine j_icmp_lt hX 69 dX5_reason_59 (by decide) (by omega) (by omega) (fun c59 => ?_) (fun c59 => absurd c59 (by omega))
          refine j_iload_n hX dX5_reason_69 rfl ?_
          refine j_if_lt hX 78 dX5_reason_70 (by decide) (by omega) (fun c70 => ?_) (fun c70 => ?_)
          · refine j_bipush hX dX5_reason_78 (by decide) ?_
            exact j_iret hX hR dX5_reason_80 ⟨by rw [rsnF, htn, if_pos ⟨hz1, by omega, hans⟩]; unfold pick; (repeat' split) <;> first | rfl | (exfalso; omega), hL24, (Fc.rf h AD n m).up (by unfold Lv; omega) _⟩
          · refine j_iload_n hX dX5_reason_73 rfl ?_
            refine j_iconst hX dX5_reason_74 ?_
            refine j_icmp_le hX 81 dX5_reason_75 (by decide) (by omega) (by omega) (fun c75 => ?_) (fun c75 => ?_)
            · refine j_aloadN hX dX5_reason_81 rfl ?_
              refine j_ifnonnullN hX dX5_reason_83 ?_
              refine j_aload_n hX dX5_reason_86 rfl ?_
              refine j_aload hX dX5_reason_87 rfl ?_
              refine j_iload_n hX dX5_reason_89 rfl ?_
              refine j_iload_n hX dX5_reason_90 rfl ?_
              refine j_callV hX cv_X5_118 (c_rowOfItself hC2 hO ht h_F (by omega) hi9 hwhat9) dX5_reason_91 h_S rfl rfl (by exact ⟨Nat.le_of_ble_eq_true rfl, Nat.le_of_ble_eq_true rfl⟩) (by exact ⟨Nat.le_of_ble_eq_true rfl, Nat.le_of_ble_eq_true rfl⟩) (by exact Nat.le_of_ble_eq_true rfl) (fun v91 h91 hp91 => ?_) rfl
              obtain ⟨rfl, rfl⟩ := hp91
              refine j_goto hX 109 dX5_reason_94 (by decide) ?_
              refine j_l2i hX dX5_reason_109 (by unfold rowI; (repeat' split) <;> omega) ?_
              exact j_iret hX hR dX5_reason_110 ⟨by rw [rsnF, htn, if_pos ⟨hz1, by omega, hans⟩]; unfold pick rowI; rw [htu9]; (repeat' split) <;> first | rfl | (exfalso; omega), hL24, (Fc.rf h AD n m).up (by unfold Lv; omega) _⟩
            · refine j_bipush hX dX5_reason_78 (by decide) ?_
              exact j_iret hX hR dX5_reason_80 ⟨by rw [rsnF, htn, if_pos ⟨hz1, by omega, hans⟩]; unfold pick; (repeat' split) <;> first | rfl | (exfalso; omega), hL24, (Fc.rf h AD n m).up (by unfold Lv; omega) _⟩
        · by_cases hr9 : rowF σ t (i - 2) n = 0
          · by_cases hm9 : i - 2 - cntA σ t n < m
            · have hcn : ¬ (i - 2 < cntA σ t n) := fun z9 => rowF_has (σ := σ) (t := t) (p := i - 2) n (by omega) z9 hr9
              have hO2 := hO.2.2.2 ((i - 2 - cntA σ t n).toNat + 1) (by omega) (by omega)
              have hux := upw_b (d := sp24) (D := 40000) (b := σ 13 ((i - 2 - cntA σ t n).toNat + 1)) (by omega) hO2.2.1
              have hum := mulb hux (show 0 ≤ σ 12 ((i - 2 - cntA σ t n).toNat + 1) ∧ σ 12 ((i - 2 - cntA σ t n).toNat + 1) ≤ 1000 by have := hO2.1; omega)
              have h_I : hup h (AD (23 + 4 * t)) (.inr (3, FF4 1 (ansF σ n m t).1 tu24 sp24)) (AD (101 + (i - 2 - cntA σ t n).toNat)) = some (.inr (4, IF σ ((i - 2 - cntA σ t n).toNat + 1))) := by have z9 := hC2.intr (i := (i - 2 - cntA σ t n).toNat + 1) ⟨by omega, by omega⟩; rw [show 100 + ((i - 2 - cntA σ t n).toNat + 1) = 101 + (i - 2 - cntA σ t n).toNat by omega] at z9; exact z9
              refine j_aload_n hX dX5_reason_43 rfl ?_
              refine j_get hX fl_X5_10_7 dX5_reason_44 h_S (by rfl) ?_
              refine j_aload hX dX5_reason_47 rfl ?_
              refine j_iload_n hX dX5_reason_49 rfl ?_
              refine j_iconst hX dX5_reason_50 ?_
              refine j_isub hX dX5_reason_51 ?_
              refine j_callV hX cv_X5_114 (c_partAboveI hC2 hO ht (by omega) (by omega) hr9 hm9) dX5_reason_52 h_C rfl rfl (by exact ⟨Nat.le_of_ble_eq_true rfl, Nat.le_of_ble_eq_true rfl⟩) (by exact ⟨Nat.le_of_ble_eq_true rfl, Nat.le_of_ble_eq_true rfl⟩) (by exact Nat.le_of_ble_eq_true rfl) (fun v52 h52 hp52 => ?_) rfl
              obtain ⟨rfl, rfl⟩ := hp52
              refine j_astore hX dX5_reason_55 (by decide) ?_
              refine j_iload_n hX dX5_reason_57 rfl ?_
              refine j_iconst hX dX5_reason_58 ?_
              refine j_icmp_lt hX 69 dX5_reason_59 (by decide) (by omega) (by omega) (fun c59 => absurd c59 (by omega)) (fun c59 => ?_)
              refine j_aload hX dX5_reason_62 rfl ?_
              refine j_ifnonnull hX 69 dX5_reason_64 (by decide) ?_
              refine j_iload_n hX dX5_reason_69 rfl ?_
              refine j_if_lt hX 78 dX5_reason_70 (by decide) (by omega) (fun c70 => ?_) (fun c70 => ?_)
              · refine j_bipush hX dX5_reason_78 (by decide) ?_
                exact j_iret hX hR dX5_reason_80 ⟨by rw [rsnF, htn, if_pos ⟨hz1, by omega, hans⟩]; unfold pick; (repeat' split) <;> first | rfl | (exfalso; omega), hL24, (Fc.rf h AD n m).up (by unfold Lv; omega) _⟩
              · refine j_iload_n hX dX5_reason_73 rfl ?_
                refine j_iconst hX dX5_reason_74 ?_
                refine j_icmp_le hX 81 dX5_reason_75 (by decide) (by omega) (by omega) (fun c75 => ?_) (fun c75 => ?_)
                · refine j_aload hX dX5_reason_81 rfl ?_
                  refine j_ifnonnull hX 97 dX5_reason_83 (by decide) ?_
                  refine j_aload_n hX dX5_reason_97 rfl ?_
                  refine j_aload hX dX5_reason_98 rfl ?_
                  refine j_aload hX dX5_reason_100 rfl ?_
                  refine j_get hX fl_X5_122_3 dX5_reason_102 h_F (by rfl) ?_
                  refine j_iload_n hX dX5_reason_105 rfl ?_
                  refine j_callV hX cv_X5_125 (c_rowOfPartI hC2 hO (o := (i - 2 - cntA σ t n).toNat) (by omega) (by omega) hwhat9) dX5_reason_106 h_S rfl rfl (by exact ⟨Nat.le_of_ble_eq_true rfl, Nat.le_of_ble_eq_true rfl⟩) (by exact ⟨Nat.le_of_ble_eq_true rfl, Nat.le_of_ble_eq_true rfl⟩) (by exact Nat.le_of_ble_eq_true rfl) (fun v106 h106 hp106 => ?_) rfl
                  obtain ⟨rfl, rfl⟩ := hp106
                  refine j_l2i hX dX5_reason_109 (by unfold rowP; (repeat' split) <;> omega) ?_
                  exact j_iret hX hR dX5_reason_110 ⟨by rw [rsnF, htn, if_pos ⟨hz1, by omega, hans⟩, if_neg (by omega), if_neg (by omega), if_neg (fun z9 => z9 hr9), if_pos hm9]; unfold pick rowP; rw [hsp9, show -(i - 2 - cntA σ t n) - 1 = -(((i - 2 - cntA σ t n).toNat + 1 : Nat) : Int) by omega]; (repeat' split) <;> first | (exfalso; omega) | rfl, hL24, (Fc.rf h AD n m).up (by unfold Lv; omega) _⟩
                · refine j_bipush hX dX5_reason_78 (by decide) ?_
                  exact j_iret hX hR dX5_reason_80 ⟨by rw [rsnF, htn, if_pos ⟨hz1, by omega, hans⟩]; unfold pick; (repeat' split) <;> first | rfl | (exfalso; omega), hL24, (Fc.rf h AD n m).up (by unfold Lv; omega) _⟩
            · refine j_aload_n hX dX5_reason_43 rfl ?_
              refine j_get hX fl_X5_10_7 dX5_reason_44 h_S (by rfl) ?_
              refine j_aload hX dX5_reason_47 rfl ?_
              refine j_iload_n hX dX5_reason_49 rfl ?_
              refine j_iconst hX dX5_reason_50 ?_
              refine j_isub hX dX5_reason_51 ?_
              refine j_callV hX cv_X5_114 (c_partAboveN hC2 hO ht (by omega) (Or.inr ⟨hr9, hm9⟩)) dX5_reason_52 h_C rfl rfl (by exact ⟨Nat.le_of_ble_eq_true rfl, Nat.le_of_ble_eq_true rfl⟩) (by exact ⟨Nat.le_of_ble_eq_true rfl, Nat.le_of_ble_eq_true rfl⟩) (by exact Nat.le_of_ble_eq_true rfl) (fun v52 h52 hp52 => ?_) rfl
              obtain ⟨rfl, rfl⟩ := hp52
              refine j_astoreN hX dX5_reason_55 (by decide) ?_
              refine j_iload_n hX dX5_reason_57 rfl ?_
              refine j_iconst hX dX5_reason_58 ?_
              refine j_icmp_lt hX 69 dX5_reason_59 (by decide) (by omega) (by omega) (fun c59 => absurd c59 (by omega)) (fun c59 => ?_)
              refine j_aloadN hX dX5_reason_62 rfl ?_
              refine j_ifnonnullN hX dX5_reason_64 ?_
              refine j_iconst hX dX5_reason_67 ?_
              exact j_iret hX hR dX5_reason_68 ⟨by rw [rsnF, htn, if_pos ⟨hz1, by omega, hans⟩, if_neg (by omega), if_neg (by omega), if_neg (fun z9 => z9 hr9), if_neg hm9], hL24, (Fc.rf h AD n m).up (by unfold Lv; omega) _⟩
          · obtain ⟨b0, b1, b2, b3, b4, b5, b6, b7, b8, b9⟩ := hO.2.2.1 (rowF σ t (i - 2) n) (by omega) (by omega)
            have hux : 0 ≤ actT σ (rowF σ t (i - 2) n) sp24 ∧ actT σ (rowF σ t (i - 2) n) sp24 ≤ 40000 := acts_b b5.1 b4 b3 b1.1 (by omega)
            have hum := mulb hux (show 0 ≤ cosT σ (rowF σ t (i - 2) n) ∧ cosT σ (rowF σ t (i - 2) n) ≤ 2000 by unfold cosT; omega)
            have h_O := hC2.task (t := rowF σ t (i - 2) n) ⟨by omega, by omega⟩
            refine j_aload_n hX dX5_reason_43 rfl ?_
            refine j_get hX fl_X5_10_7 dX5_reason_44 h_S (by rfl) ?_
            refine j_aload hX dX5_reason_47 rfl ?_
            refine j_iload_n hX dX5_reason_49 rfl ?_
            refine j_iconst hX dX5_reason_50 ?_
            refine j_isub hX dX5_reason_51 ?_
            refine j_callV hX cv_X5_114 (c_partAboveT hC2 hO ht (by omega) (by omega) hr9) dX5_reason_52 h_C rfl rfl (by exact ⟨Nat.le_of_ble_eq_true rfl, Nat.le_of_ble_eq_true rfl⟩) (by exact ⟨Nat.le_of_ble_eq_true rfl, Nat.le_of_ble_eq_true rfl⟩) (by exact Nat.le_of_ble_eq_true rfl) (fun v52 h52 hp52 => ?_) rfl
            obtain ⟨rfl, rfl⟩ := hp52
            refine j_astore hX dX5_reason_55 (by decide) ?_
            refine j_iload_n hX dX5_reason_57 rfl ?_
            refine j_iconst hX dX5_reason_58 ?_
            refine j_icmp_lt hX 69 dX5_reason_59 (by decide) (by omega) (by omega) (fun c59 => absurd c59 (by omega)) (fun c59 => ?_)
            refine j_aload hX dX5_reason_62 rfl ?_
            refine j_ifnonnull hX 69 dX5_reason_64 (by decide) ?_
            refine j_iload_n hX dX5_reason_69 rfl ?_
            refine j_if_lt hX 78 dX5_reason_70 (by decide) (by omega) (fun c70 => ?_) (fun c70 => ?_)
            · refine j_bipush hX dX5_reason_78 (by decide) ?_
              exact j_iret hX hR dX5_reason_80 ⟨by rw [rsnF, htn, if_pos ⟨hz1, by omega, hans⟩]; unfold pick; (repeat' split) <;> first | rfl | (exfalso; omega), hL24, (Fc.rf h AD n m).up (by unfold Lv; omega) _⟩
            · refine j_iload_n hX dX5_reason_73 rfl ?_
              refine j_iconst hX dX5_reason_74 ?_
              refine j_icmp_le hX 81 dX5_reason_75 (by decide) (by omega) (by omega) (fun c75 => ?_) (fun c75 => ?_)
              · refine j_aload hX dX5_reason_81 rfl ?_
                refine j_ifnonnull hX 97 dX5_reason_83 (by decide) ?_
                refine j_aload_n hX dX5_reason_97 rfl ?_
                refine j_aload hX dX5_reason_98 rfl ?_
                refine j_aload hX dX5_reason_100 rfl ?_
                refine j_get hX fl_X5_122_3 dX5_reason_102 h_F (by rfl) ?_
                refine j_iload_n hX dX5_reason_105 rfl ?_
                refine j_callV hX cv_X5_125 (c_rowOfPartT hC2 hO (o := rowF σ t (i - 2) n) ⟨by omega, by omega⟩ (by omega) hwhat9) dX5_reason_106 h_S rfl rfl (by exact ⟨Nat.le_of_ble_eq_true rfl, Nat.le_of_ble_eq_true rfl⟩) (by exact ⟨Nat.le_of_ble_eq_true rfl, Nat.le_of_ble_eq_true rfl⟩) (by exact Nat.le_of_ble_eq_true rfl) (fun v106 h106 hp106 => ?_) rfl
                obtain ⟨rfl, rfl⟩ := hp106
                refine j_l2i hX dX5_reason_109 (by unfold rowP; (repeat' split) <;> omega) ?_
                exact j_iret hX hR dX5_reason_110 ⟨by rw [rsnF, htn, if_pos ⟨hz1, by omega, hans⟩, if_neg (by omega), if_neg (by omega), if_pos hr9]; unfold pick rowP; rw [hsp9]; (repeat' split) <;> first | rfl | (exfalso; omega), hL24, (Fc.rf h AD n m).up (by unfold Lv; omega) _⟩
              · refine j_bipush hX dX5_reason_78 (by decide) ?_
                exact j_iret hX hR dX5_reason_80 ⟨by rw [rsnF, htn, if_pos ⟨hz1, by omega, hans⟩]; unfold pick; (repeat' split) <;> first | rfl | (exfalso; omega), hL24, (Fc.rf h AD n m).up (by unfold Lv; omega) _⟩
      · refine j_iconst hX dX5_reason_41 ?_
        exact j_iret hX hR dX5_reason_42 ⟨by rw [rsnF, htn, if_neg (fun z9 => z9.2.2 (by omega))], hL24, (Fc.rf h AD n m).up (by unfold Lv; omega) _⟩
    · refine j_iconst hX dX5_reason_19 ?_
      exact j_iret hX hR dX5_reason_20 ⟨by rw [rsnF, if_neg (by omega)], hL, Fc.rf h AD n m⟩
  · refine j_aload_n hX dX5_reason_0 rfl ?_
    refine j_get hX fl_X5_10_7 dX5_reason_1 h_S (by rfl) ?_
    refine j_iload_n hX dX5_reason_4 rfl ?_
    refine j_callV hX cv_X5_65 (c_taskOfN hC hO hz hz1) dX5_reason_5 h_C rfl rfl (by exact ⟨Nat.le_of_ble_eq_true rfl, Nat.le_of_ble_eq_true rfl⟩) (by exact ⟨Nat.le_of_ble_eq_true rfl, Nat.le_of_ble_eq_true rfl⟩) (by exact Nat.le_of_ble_eq_true rfl) (fun v5 h5 hp5 => ?_) rfl
    obtain ⟨rfl, rfl⟩ := hp5
    refine j_astoreN hX dX5_reason_8 (by decide) ?_
    refine j_aloadN hX dX5_reason_10 rfl ?_
    refine j_ifnullN hX 19 dX5_reason_12 (by decide) ?_
    refine j_iconst hX dX5_reason_19 ?_
    exact j_iret hX hR dX5_reason_20 ⟨by rw [rsnF, if_neg (fun z9 => hz1 z9.1)], hL, Fc.rf h AD n m⟩
