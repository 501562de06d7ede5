/-! THE CLASS: findings, answers, loads, longer -/
def FKn (h : hF) (AD : Nat → Nat) (σ : St) (n m : Nat) : Prop := ∀ t : Nat, 1 ≤ t → t ≤ n → ∃ a b c d : Int, h (AD (23 + 4 * t)) = some (.inr (3, FF4 a b c d)) ∧ (a = 0 ∨ a = 1) ∧ (a = 1 → b = (ansF σ n m t).1 ∧ (b ≠ -1 → c = (ansF σ n m t).2.1 ∧ d = (ansF σ n m t).2.2))
def PKn (G : Gt) (h : hF) (AD : Nat → Nat) (σ : St) (n : Nat) : Prop := ∃ (kn ct en : Int) (f : Nat → Int), h (AD 6) = some (.inr (5, PF AD kn ct en)) ∧ h (AD 7) = some (gJ G 3 f) ∧ (kn = 0 ∨ kn = 1) ∧ (kn = 1 → RUN σ n ∧ ct = n ∧ ∀ t : Nat, 1 ≤ t → t ≤ n → f (t - 1) = plm σ n (endT σ n) t)
def Cl (G : Gt) (h : hF) (AD : Nat → Nat) (σ : St) (n m : Nat) : Prop := Cr G h AD σ n m ∧ FKn h AD σ n m ∧ PKn G h AD σ n
def Fc (h h' : hF) (AD : Nat → Nat) (n m : Nat) : Prop := ∀ a : Nat, h a ≠ none → (∀ k : Nat, Lv n m k → a ≠ AD k) → h' a = h a
theorem Fc.rf (h : hF) (AD : Nat → Nat) (n m : Nat) : Fc h h AD n m := fun _ _ _ => rfl
theorem Fc.tr {h h1 h2 : hF} {AD : Nat → Nat} {n m : Nat} (x : Fc h h1 AD n m) (y : Fc h1 h2 AD n m) : Fc h h2 AD n m := fun a q1 q2 => by
  have e := x a q1 q2
  exact (y a (by rw [e]; exact q1) q2).trans e
theorem Fc.up {h h1 : hF} {AD : Nat → Nat} {n m k : Nat} (x : Fc h h1 AD n m) (hk : Lv n m k) (e : va_E) : Fc h (hup h1 (AD k) e) AD n m := fun a q1 q2 => by rw [hup_ne (q2 k hk)]; exact x a q1 q2
section CLS
variable {G : Gt} {h : hF} {AD : Nat → Nat} {σ : St} {n m : Nat}
theorem FKn.oth (hK : FKn h AD σ n m) {h' : hF} (e : ∀ t : Nat, 1 ≤ t → t ≤ n → h' (AD (23 + 4 * t)) = h (AD (23 + 4 * t))) : FKn h' AD σ n m := fun t h1 h2 => by
  obtain ⟨a, b, c, d, q1, q2⟩ := hK t h1 h2
  exact ⟨a, b, c, d, (e t h1 h2).trans q1, q2⟩
theorem PKn.oth (hP : PKn G h AD σ n) {h' : hF} (e6 : h' (AD 6) = h (AD 6)) (e7 : h' (AD 7) = h (AD 7)) : PKn G h' AD σ n := by
  obtain ⟨kn, ct, en, f, q1, q2, q3⟩ := hP
  exact ⟨kn, ct, en, f, e6.trans q1, e7.trans q2, q3⟩
theorem FKn.set (hC : Cr G h AD σ n m) (hK : FKn h AD σ n m) {t : Nat} (ht : 1 ≤ t ∧ t ≤ n) {tu sp : Int} (hr : (ansF σ n m t).1 ≠ -1 → tu = (ansF σ n m t).2.1 ∧ sp = (ansF σ n m t).2.2) : FKn (hup h (AD (23 + 4 * t)) (.inr (3, FF4 1 (ansF σ n m t).1 tu sp))) AD σ n m := by
  intro o h1 h2
  by_cases e : o = t
  · subst e
    exact ⟨1, _, _, _, hup_eq _ _ _, Or.inr rfl, fun _ => ⟨rfl, hr⟩⟩
  · obtain ⟨a, b, c, d, q1, q2⟩ := hK o h1 h2
    refine ⟨a, b, c, d, ?_, q2⟩
    rw [hup_ne (hC.inj (by unfold Lv; omega) (by unfold Lv; omega) (by omega))]
    exact q1
theorem Cl.set (hL : Cl G h AD σ n m) (hn : n ≤ 16) {t : Nat} (ht : 1 ≤ t ∧ t ≤ n) {tu sp : Int} (hr : (ansF σ n m t).1 ≠ -1 → tu = (ansF σ n m t).2.1 ∧ sp = (ansF σ n m t).2.2) : Cl G (hup h (AD (23 + 4 * t)) (.inr (3, FF4 1 (ansF σ n m t).1 tu sp))) AD σ n m :=
  ⟨hL.1.fnd hn (Or.inr ⟨t, ht.1, ht.2, rfl⟩) _ _ _ _ (Or.inr rfl), hL.2.1.set hL.1 ht hr, hL.2.2.oth (hup_ne (hL.1.inj (by unfold Lv; omega) (by unfold Lv; omega) (by omega))) (hup_ne (hL.1.inj (by unfold Lv; omega) (by unfold Lv; omega) (by omega)))⟩
end CLS
set_option maxRecDepth 100000 in
set_option maxHeartbeats 4000000 in
theorem c_wholeLoad {l : Launch} {G : Gt} {B : Nat} {h : hF} {AD : Nat → Nat} {σ : St} {n m : Nat} (hC : Cr G h AD σ n m) (hO : OK n m σ) : Ct l G B yX0_wholeLoad cX0_wholeLoad 4 (some .long) 3 0 0 [.ref (AD 0)] h (fun v h' => v = .long (lZ (loT σ n + loI σ m)) ∧ h = h') := by
  refine Ct.of (by decide) (Nat.le_of_ble_eq_true rfl) ?_
  intro p e s m9 below meth c A hX hR hin
  have hn16 := hO.1
  have hm8 := hO.2.1
  have h_C := hC.2.1.1
  have hTL := hC.2.2.1
  have hIL := hC.2.2.2.1
  have hTL9 := hTL
  obtain ⟨mcT, capT, gT, h_TL, -⟩ := hTL9
  have hIL9 := hIL
  obtain ⟨mcI, capI, gI9, h_IL, -⟩ := hIL9
  refine J_abs (J0 := J p l e _ s m9 _ below meth c _ _ G A) ?_
  intro JX hji hjo
  have li : ∀ (d o : Nat) (x : Int), d + o = m → x = loT σ n + loI σ o → JX 0 0 40 [(0, .ref (AD 0)), (1, .long (lZ x)), (3, .int (iZ ((o : Nat) : Int)))] [] h := by
    intro d
    induction d with
    | zero =>
      intro o x hd hx
      refine hji ?_
      refine j_iload_n hX dX0_wholeLoad_40 rfl ?_
      refine j_aload_n hX dX0_wholeLoad_41 rfl ?_
      refine j_get hX fl_X0_18_2 dX0_wholeLoad_42 h_C (by rfl) ?_
      refine j_callV hX cv_X0_25 (c_size hIL) dX0_wholeLoad_45 h_IL rfl rfl (by exact ⟨Nat.le_of_ble_eq_true rfl, Nat.le_of_ble_eq_true rfl⟩) (by exact ⟨Nat.le_of_ble_eq_true rfl, Nat.le_of_ble_eq_true rfl⟩) (by exact Nat.le_of_ble_eq_true rfl) (fun v45 h45 hp45 => ?_) rfl
      obtain ⟨rfl, rfl⟩ := hp45
      refine j_icmp_ge hX 74 dX0_wholeLoad_48 (by decide) (by omega) (by omega) (fun c48 => ?_) (fun c48 => absurd c48 (by omega))
      refine j_lload_n hX dX0_wholeLoad_74 rfl ?_
      exact j_lret hX hR dX0_wholeLoad_75 ⟨by rw [hx, show o = m by omega], rfl⟩
    | succ d ih =>
      intro o x hd hx
      have hOi := hO.2.2.2 (o + 1) (by omega) (by omega)
      have h_I : h (AD (101 + o)) = some (.inr (4, IF σ (o + 1))) := by have z9 := hC.intr (i := o + 1) ⟨by omega, by omega⟩; rw [show 100 + (o + 1) = 101 + o by omega] at z9; exact z9
      have e8 : loaI (σ 12 (o + 1)) 0 1 (σ 13 (o + 1)) = 1000000 * σ 12 (o + 1) / σ 13 (o + 1) := by unfold loaI; rw [Int.mul_one, Int.add_zero]
      refine hji ?_
      refine j_iload_n hX dX0_wholeLoad_40 rfl ?_
      refine j_aload_n hX dX0_wholeLoad_41 rfl ?_
      refine j_get hX fl_X0_18_2 dX0_wholeLoad_42 h_C (by rfl) ?_
      refine j_callV hX cv_X0_25 (c_size hIL) dX0_wholeLoad_45 h_IL rfl rfl (by exact ⟨Nat.le_of_ble_eq_true rfl, Nat.le_of_ble_eq_true rfl⟩) (by exact ⟨Nat.le_of_ble_eq_true rfl, Nat.le_of_ble_eq_true rfl⟩) (by exact Nat.le_of_ble_eq_true rfl) (fun v45 h45 hp45 => ?_) rfl
      obtain ⟨rfl, rfl⟩ := hp45
      refine j_icmp_ge hX 74 dX0_wholeLoad_48 (by decide) (by omega) (by omega) (fun c48 => absurd c48 (by omega)) (fun c48 => ?_)
      refine j_lload_n hX dX0_wholeLoad_51 rfl ?_
      refine j_aload_n hX dX0_wholeLoad_52 rfl ?_
      refine j_get hX fl_X0_18_2 dX0_wholeLoad_53 h_C (by rfl) ?_
      refine j_iload_n hX dX0_wholeLoad_56 rfl ?_
      refine j_callV hX cv_X0_29 (c_get hIL (by omega) (i := o) (by omega) rfl) dX0_wholeLoad_57 h_IL rfl rfl (by exact ⟨Nat.le_of_ble_eq_true rfl, Nat.le_of_ble_eq_true rfl⟩) (by exact ⟨Nat.le_of_ble_eq_true rfl, Nat.le_of_ble_eq_true rfl⟩) (by exact Nat.le_of_ble_eq_true rfl) (fun v57 h57 hp57 => ?_) rfl
      obtain ⟨rfl, rfl⟩ := hp57
      refine j_castS hX ck_X0_70 dX0_wholeLoad_60 h_I rfl ?_
      refine j_callV hX cv_X0_133 (c_load4 hOi.P (IF σ (o + 1)) h_I rfl rfl rfl rfl rfl rfl) dX0_wholeLoad_63 h_I rfl rfl (by exact ⟨Nat.le_of_ble_eq_true rfl, Nat.le_of_ble_eq_true rfl⟩) (by exact ⟨Nat.le_of_ble_eq_true rfl, Nat.le_of_ble_eq_true rfl⟩) (by exact Nat.le_of_ble_eq_true rfl) (fun v63 h63 hp63 => ?_) rfl
      obtain ⟨rfl, rfl⟩ := hp63
      refine j_ladd hX dX0_wholeLoad_66 ?_
      refine j_lstore_n hX dX0_wholeLoad_67 (by decide) ?_
      refine j_iinc hX dX0_wholeLoad_68 rfl (by decide) ?_
      refine j_goto hX 40 dX0_wholeLoad_71 (by decide) ?_
      exact j_at (L' := [(0, .ref (AD 0)), (1, .long (lZ _)), (3, .int (iZ (((o + 1) : Nat) : Int)))]) (hjo (ih (o + 1) _ (by omega) (by rw [hx, e8]; show _ = _ + (loI σ o + _); omega))) ⟨rfl, rfl, rfl, trivial⟩
  have lp : ∀ (d o : Nat) (x : Int), d + o = n → x = loT σ o → JX 0 0 4 [(0, .ref (AD 0)), (1, .long (lZ x)), (3, .int (iZ ((o : Nat) : Int)))] [] h := by
    intro d
    induction d with
    | zero =>
      intro o x hd hx
      refine hji ?_
      refine j_iload_n hX dX0_wholeLoad_4 rfl ?_
      refine j_aload_n hX dX0_wholeLoad_5 rfl ?_
      refine j_get hX fl_X0_12_2 dX0_wholeLoad_6 h_C (by rfl) ?_
      refine j_callV hX cv_X0_25 (c_size hTL) dX0_wholeLoad_9 h_TL rfl rfl (by exact ⟨Nat.le_of_ble_eq_true rfl, Nat.le_of_ble_eq_true rfl⟩) (by exact ⟨Nat.le_of_ble_eq_true rfl, Nat.le_of_ble_eq_true rfl⟩) (by exact Nat.le_of_ble_eq_true rfl) (fun v9 h9 hp9 => ?_) rfl
      obtain ⟨rfl, rfl⟩ := hp9
      refine j_icmp_ge hX 38 dX0_wholeLoad_12 (by decide) (by omega) (by omega) (fun c12 => ?_) (fun c12 => absurd c12 (by omega))
      refine j_iconst hX dX0_wholeLoad_38 ?_
      refine j_istore_n hX dX0_wholeLoad_39 (by decide) ?_
      exact j_at (L' := [(0, .ref (AD 0)), (1, .long (lZ x)), (3, .int (iZ ((0 : Nat) : Int)))]) (hjo (li m 0 x (by omega) (by rw [hx, show o = n by omega]; show _ = _ + 0; omega))) ⟨rfl, rfl, rfl, trivial⟩
    | succ d ih =>
      intro o x hd hx
      have hOt := hO.2.2.1 (o + 1) (by omega) (by omega)
      have h_O := hC.task (t := o + 1) ⟨by omega, by omega⟩
      have e9 : 20 + 4 * (o + 1) = 24 + 4 * o := by omega
      refine hji ?_
      refine j_iload_n hX dX0_wholeLoad_4 rfl ?_
      refine j_aload_n hX dX0_wholeLoad_5 rfl ?_
      refine j_get hX fl_X0_12_2 dX0_wholeLoad_6 h_C (by rfl) ?_
      refine j_callV hX cv_X0_25 (c_size hTL) dX0_wholeLoad_9 h_TL rfl rfl (by exact ⟨Nat.le_of_ble_eq_true rfl, Nat.le_of_ble_eq_true rfl⟩) (by exact ⟨Nat.le_of_ble_eq_true rfl, Nat.le_of_ble_eq_true rfl⟩) (by exact Nat.le_of_ble_eq_true rfl) (fun v9 h9 hp9 => ?_) rfl
      obtain ⟨rfl, rfl⟩ := hp9
      refine j_icmp_ge hX 38 dX0_wholeLoad_12 (by decide) (by omega) (by omega) (fun c12 => absurd c12 (by omega)) (fun c12 => ?_)
      refine j_lload_n hX dX0_wholeLoad_15 rfl ?_
      refine j_aload_n hX dX0_wholeLoad_16 rfl ?_
      refine j_get hX fl_X0_12_2 dX0_wholeLoad_17 h_C (by rfl) ?_
      refine j_iload_n hX dX0_wholeLoad_20 rfl ?_
      refine j_callV hX cv_X0_29 (c_get hTL (by omega) (i := o) (x := AD (20 + 4 * (o + 1))) (by omega) (by rw [e9])) dX0_wholeLoad_21 h_TL rfl rfl (by exact ⟨Nat.le_of_ble_eq_true rfl, Nat.le_of_ble_eq_true rfl⟩) (by exact ⟨Nat.le_of_ble_eq_true rfl, Nat.le_of_ble_eq_true rfl⟩) (by exact Nat.le_of_ble_eq_true rfl) (fun v21 h21 hp21 => ?_) rfl
      obtain ⟨rfl, rfl⟩ := hp21
      refine j_castS hX ck_X0_33 dX0_wholeLoad_24 h_O rfl ?_
      refine j_callU hX cu_X0_130_6 (c_load6 hOt.P (TF AD σ (o + 1)) h_O rfl rfl rfl rfl rfl rfl) dX0_wholeLoad_27 h_O rfl rfl (by exact ⟨Nat.le_of_ble_eq_true rfl, Nat.le_of_ble_eq_true rfl⟩) (by exact ⟨Nat.le_of_ble_eq_true rfl, Nat.le_of_ble_eq_true rfl⟩) (by exact Nat.le_of_ble_eq_true rfl) (fun v27 h27 hp27 => ?_) rfl
      obtain ⟨rfl, rfl⟩ := hp27
      refine j_ladd hX dX0_wholeLoad_30 ?_
      refine j_lstore_n hX dX0_wholeLoad_31 (by decide) ?_
      refine j_iinc hX dX0_wholeLoad_32 rfl (by decide) ?_
      refine j_goto hX 4 dX0_wholeLoad_35 (by decide) ?_
      exact j_at (L' := [(0, .ref (AD 0)), (1, .long (lZ _)), (3, .int (iZ (((o + 1) : Nat) : Int)))]) (hjo (ih (o + 1) _ (by omega) (by rw [hx]; rfl))) ⟨rfl, rfl, rfl, trivial⟩
  refine hji ?_
  refine j_lconst0 hX dX0_wholeLoad_0 ?_
  refine j_lstore_n hX dX0_wholeLoad_1 (by decide) ?_
  refine j_iconst hX dX0_wholeLoad_2 ?_
  refine j_istore_n hX dX0_wholeLoad_3 (by decide) ?_
  exact j_at (L' := [(0, .ref (AD 0)), (1, .long (lZ _)), (3, .int (iZ ((0 : Nat) : Int)))]) (hjo (lp n 0 0 (by omega) rfl)) ⟨rfl, rfl, rfl, trivial⟩
set_option maxRecDepth 100000 in
set_option maxHeartbeats 4000000 in
theorem c_findingOf {l : Launch} {G : Gt} {B : Nat} {h : hF} {AD : Nat → Nat} {σ : St} {n m : Nat} (hL : Cl G h AD σ n m) (hO : OK n m σ) {t : Nat} (ht : 1 ≤ t ∧ t ≤ n) : Ct l G B yX5_findingOf cX5_findingOf 2 (some (.object "AnswerSums$Finding")) 6 0 0 [.ref (AD 15), .ref (AD (20 + 4 * t))] h (fun v h' => v = .ref (AD (23 + 4 * t)) ∧ ∃ tu sp : Int, h' = hup h (AD (23 + 4 * t)) (.inr (3, FF4 1 (ansF σ n m t).1 tu sp)) ∧ ((ansF σ n m t).1 ≠ -1 → tu = (ansF σ n m t).2.1 ∧ sp = (ansF σ n m t).2.2)) := by
  refine Ct.of (by decide) (Nat.le_of_ble_eq_true rfl) ?_
  intro p e s m9 below meth c A hX hR hin
  have hC := hL.1
  have hn16 := hO.1
  have hm8 := hO.2.1
  have h_C := hC.2.1.1
  have hTL := hC.2.2.1
  have hIL := hC.2.2.2.1
  have hTL9 := hTL
  obtain ⟨mcT, capT, gT, h_TL, -⟩ := hTL9
  have hIL9 := hIL
  obtain ⟨mcI, capI, gI9, h_IL, -⟩ := hIL9
  have h_S := hC.2.1.2
  have h_T := hC.task ht
  obtain ⟨a9, b9, c9, d9, h_F, ha9, hk9⟩ := hL.2.1 t ht.1 ht.2
  have hFT : FF4 a9 b9 c9 d9 = FF4 a9 b9 c9 d9 := rfl
  refine j_aload_n hX dX5_findingOf_0 rfl ?_
  refine j_get hX fl_X5_183_6 dX5_findingOf_1 h_T (by rfl) ?_
  refine j_get hX fl_X5_186_3 dX5_findingOf_4 h_F (by rfl) ?_
  refine j_if_ne hX 22 dX5_findingOf_7 (by decide) (by omega) (fun c7 => ?_) (fun c7 => ?_)
  · refine j_aload_n hX dX5_findingOf_22 rfl ?_
    refine j_get hX fl_X5_183_6 dX5_findingOf_23 h_T (by rfl) ?_
    exact j_aret hX hR (Or.inl ⟨_, rfl⟩) dX5_findingOf_26 (Or.inr ⟨_, rfl⟩) ⟨rfl, c9, d9, by obtain rfl : a9 = 1 := (by omega); obtain ⟨q1, q2⟩ := hk9 rfl; rw [← q1]; exact ⟨(hup_id h_F).symm, q2⟩⟩
  · refine j_aload_n hX dX5_findingOf_10 rfl ?_
    refine j_get hX fl_X5_10_7 dX5_findingOf_11 h_S (by rfl) ?_
    refine j_aload_n hX dX5_findingOf_14 rfl ?_
    refine j_aload_n hX dX5_findingOf_15 rfl ?_
    refine j_get hX fl_X5_183_6 dX5_findingOf_16 h_T (by rfl) ?_
    refine j_callVv hX cv_X5_187 (c_find hC hO ht (Or.inr ⟨t, ht.1, ht.2, rfl⟩) h_F) dX5_findingOf_19 h_C rfl rfl (by exact ⟨Nat.le_of_ble_eq_true rfl, Nat.le_of_ble_eq_true rfl⟩) (by exact ⟨Nat.le_of_ble_eq_true rfl, Nat.le_of_ble_eq_true rfl⟩) (by exact Nat.le_of_ble_eq_true rfl) (fun h19 hp19 => ?_) rfl
    obtain ⟨tu9, sp9, rfl, hr9⟩ := hp19
    have hC1 := hC.fnd hO.1 (Or.inr ⟨t, ht.1, ht.2, rfl⟩) 1 (ansF σ n m t).1 tu9 sp9 (Or.inr rfl)
    have h_T := hC1.task ht
    refine j_aload_n hX dX5_findingOf_22 rfl ?_
    refine j_get hX fl_X5_183_6 dX5_findingOf_23 h_T (by rfl) ?_
    exact j_aret hX hR (Or.inl ⟨_, rfl⟩) dX5_findingOf_26 (Or.inr ⟨_, rfl⟩) ⟨rfl, tu9, sp9, rfl, hr9⟩
theorem c_taskOfT {l : Launch} {G : Gt} {B : Nat} {h : hF} {AD : Nat → Nat} {σ : St} {n m : Nat} (hC : Cr G h AD σ n m) (hO : OK n m σ) {t : Nat} (ht : 1 ≤ t ∧ t ≤ n) : Ct l G B yX0_taskOf cX0_taskOf 2 (some (.object "AnswerSums$Task")) 3 0 0 [.ref (AD 0), .int (iZ (t : Int))] h (fun v h' => v = .ref (AD (20 + 4 * t)) ∧ h = h') := Ct.mono (c_taskOf hC hO (z := t) (by have := hO.1; omega)) (fun v h' hv => ⟨by rw [hv.1, if_pos ⟨by omega, by omega⟩]; rfl, hv.2⟩)
theorem c_taskOfN {l : Launch} {G : Gt} {B : Nat} {h : hF} {AD : Nat → Nat} {σ : St} {n m : Nat} (hC : Cr G h AD σ n m) (hO : OK n m σ) {z : Int} (hz : -2147483648 ≤ z ∧ z < 2147483648) (hn : ¬ (1 ≤ z ∧ z ≤ n)) : Ct l G B yX0_taskOf cX0_taskOf 2 (some (.object "AnswerSums$Task")) 3 0 0 [.ref (AD 0), .int (iZ z)] h (fun v h' => v = .null ∧ h = h') := Ct.mono (c_taskOf hC hO hz) (fun v h' hv => ⟨by rw [hv.1, if_neg hn], hv.2⟩)
set_option maxRecDepth 100000 in
set_option maxHeartbeats 4000000 in
theorem c_answer {l : Launch} {G : Gt} {B : Nat} {h : hF} {AD : Nat → Nat} {σ : St} {n m : Nat} (hL : Cl G h AD σ n m) (hO : OK n m σ) {z : Int} (hz : -2147483648 ≤ z ∧ z < 2147483648) : Ct l G B yX5_answer cX5_answer 3 (some .long) 7 0 0 [.ref (AD 15), .int (iZ z)] h (fun v h' => v = .long (lZ (ansV σ n m z)) ∧ Cl G h' AD σ n m ∧ Fc h h' AD n m) := by
  refine Ct.of (by decide) (Nat.le_of_ble_eq_true rfl) ?_
  intro p e s m9 below meth c A hX hR hin
  have hC := hL.1
  have hn16 := hO.1
  have hm8 := hO.2.1
  have h_C := hC.2.1.1
  have hTL := hC.2.2.1
  have hIL := hC.2.2.2.1
  have hTL9 := hTL
  obtain ⟨mcT, capT, gT, h_TL, -⟩ := hTL9
  have hIL9 := hIL
  obtain ⟨mcI, capI, gI9, h_IL, -⟩ := hIL9
  have h_S := hC.2.1.2
  by_cases hz1 : 1 ≤ z ∧ z ≤ (n : Int)
  · obtain ⟨t, rfl⟩ : ∃ t : Nat, z = (t : Int) := ⟨z.toNat, by omega⟩
    have ht : 1 ≤ t ∧ t ≤ n := by omega
    have htn : (t : Int).toNat = t := rfl
    refine j_aload_n hX dX5_answer_0 rfl ?_
    refine j_get hX fl_X5_10_7 dX5_answer_1 h_S (by rfl) ?_
    refine j_iload_n hX dX5_answer_4 rfl ?_
    refine j_callV hX cv_X5_65 (c_taskOfT hC hO ht) dX5_answer_5 h_C rfl rfl (by exact ⟨Nat.le_of_ble_eq_true rfl, Nat.le_of_ble_eq_true rfl⟩) (by exact ⟨Nat.le_of_ble_eq_true rfl, Nat.le_of_ble_eq_true rfl⟩) (by exact Nat.le_of_ble_eq_true rfl) (fun v5 h5 hp5 => ?_) rfl
    obtain ⟨rfl, rfl⟩ := hp5
    have h_T := hC.task ht
    refine j_astore_n hX dX5_answer_8 (by decide) ?_
    refine j_aload_n hX dX5_answer_9 rfl ?_
    refine j_ifnonnull hX 19 dX5_answer_10 (by decide) ?_
    refine j_aload_n hX dX5_answer_19 rfl ?_
    refine j_aload_n hX dX5_answer_20 rfl ?_
    refine j_callV hX cv_X5_107 (c_findingOf hL hO ht) dX5_answer_21 h_S rfl rfl (by exact ⟨Nat.le_of_ble_eq_true rfl, Nat.le_of_ble_eq_true rfl⟩) (by exact ⟨Nat.le_of_ble_eq_true rfl, Nat.le_of_ble_eq_true rfl⟩) (by exact Nat.le_of_ble_eq_true rfl) (fun v21 h21 hp21 => ?_) rfl
    obtain ⟨rfl, tu21, sp21, rfl, hr21⟩ := hp21
    have hL21 := hL.set hO.1 ht hr21
    have h_F : hup h (AD (23 + 4 * t)) (.inr (3, FF4 1 (ansF σ n m t).1 tu21 sp21)) (AD (23 + 4 * t)) = _ := hup_eq _ _ _
    refine j_get hX fl_X5_111_3 dX5_answer_24 h_F (by rfl) ?_
    exact j_lret hX hR dX5_answer_27 ⟨by rw [ansV, if_pos hz1]; rfl, hL21, (Fc.rf h AD n m).up (by unfold Lv; omega) _⟩
  · refine j_aload_n hX dX5_answer_0 rfl ?_
    refine j_get hX fl_X5_10_7 dX5_answer_1 h_S (by rfl) ?_
    refine j_iload_n hX dX5_answer_4 rfl ?_
    refine j_callV hX cv_X5_65 (c_taskOfN hC hO hz hz1) dX5_answer_5 h_C rfl rfl (by exact ⟨Nat.le_of_ble_eq_true rfl, Nat.le_of_ble_eq_true rfl⟩) (by exact ⟨Nat.le_of_ble_eq_true rfl, Nat.le_of_ble_eq_true rfl⟩) (by exact Nat.le_of_ble_eq_true rfl) (fun v5 h5 hp5 => ?_) rfl
    obtain ⟨rfl, rfl⟩ := hp5
    refine j_astore_nN hX dX5_answer_8 (by decide) ?_
    refine j_aload_nN hX dX5_answer_9 rfl ?_
    refine j_ifnonnullN hX dX5_answer_10 ?_
    refine j_ldc2 hX k_X5_105 (z := -2) (by decide) dX5_answer_13 ?_
    refine j_goto hX 27 dX5_answer_16 (by decide) ?_
    exact j_lret hX hR dX5_answer_27 ⟨by rw [ansV, if_neg hz1], hL, Fc.rf h AD n m⟩
set_option maxRecDepth 100000 in
set_option maxHeartbeats 4000000 in
theorem c_busy {l : Launch} {G : Gt} {B : Nat} {h : hF} {AD : Nat → Nat} {σ : St} {n m : Nat} (hL : Cl G h AD σ n m) (hO : OK n m σ) {side : Int} (hsd9 : -2147483648 ≤ side ∧ side < 2147483648) : Ct l G B yX5_busy cX5_busy 9 (some .long) 7 0 0 [.ref (AD 15), .int (iZ side)] h (fun v h' => v = .long (lZ (busyF σ n m side)) ∧ Cl G h' AD σ n m ∧ Fc h h' AD n m) := by
  refine Ct.of (by decide) (Nat.le_of_ble_eq_true rfl) ?_
  intro p e s m9 below meth c A hX hR hin
  have hC := hL.1
  have hn16 := hO.1
  have hm8 := hO.2.1
  have h_C := hC.2.1.1
  have hTL := hC.2.2.1
  have hIL := hC.2.2.2.1
  have hTL9 := hTL
  obtain ⟨mcT, capT, gT, h_TL, -⟩ := hTL9
  have hIL9 := hIL
  obtain ⟨mcI, capI, gI9, h_IL, -⟩ := hIL9
  have h_S := hC.2.1.2
  refine J_abs (J0 := J p l e _ s m9 _ below meth c _ _ G A) ?_
  intro JX hji hjo
  have lp : ∀ (d o : Nat) (x y : Int) (h1 : hF), side ≠ 0 → d + o = n → Cl G h1 AD σ n m → Fc h h1 AD n m → x = cntF σ n m o → y = mxF σ n m o → JX 0 0 20 [(0, .ref (AD 15)), (1, .int (iZ side)), (2, .long (lZ x)), (4, .long (lZ y)), (6, .int (iZ ((o : Nat) : Int)))] [] h1 := by
    intro d
    induction d with
    | zero =>
      intro o x y h1 hsd hd hL1 hF1 hx1 hx2
      have hC := hL1.1
      have hn16 := hO.1
      have hm8 := hO.2.1
      have h_C := hC.2.1.1
      have hTL := hC.2.2.1
      have hIL := hC.2.2.2.1
      have hTL9 := hTL
      obtain ⟨mcT, capT, gT, h_TL, -⟩ := hTL9
      have hIL9 := hIL
      obtain ⟨mcI, capI, gI9, h_IL, -⟩ := hIL9
      have h_S := hC.2.1.2
      refine hji ?_
      refine j_iload hX dX5_busy_20 rfl ?_
      refine j_aload_n hX dX5_busy_22 rfl ?_
      refine j_get hX fl_X5_10_7 dX5_busy_23 h_S (by rfl) ?_
      refine j_get hX fl_X5_36_2 dX5_busy_26 h_C (by rfl) ?_
      refine j_callV hX cv_X5_40 (c_size hTL) dX5_busy_29 h_TL rfl rfl (by exact ⟨Nat.le_of_ble_eq_true rfl, Nat.le_of_ble_eq_true rfl⟩) (by exact ⟨Nat.le_of_ble_eq_true rfl, Nat.le_of_ble_eq_true rfl⟩) (by exact Nat.le_of_ble_eq_true rfl) (fun v29 h29 hp29 => ?_) rfl
      obtain ⟨rfl, rfl⟩ := hp29
      refine j_icmp_ge hX 87 dX5_busy_32 (by decide) (by omega) (by omega) (fun c32 => ?_) (fun c32 => absurd c32 (by omega))
      refine j_iload_n hX dX5_busy_87 rfl ?_
      refine j_iconst hX dX5_busy_88 ?_
      refine j_icmp_ne hX 96 dX5_busy_89 (by decide) (by omega) (by omega) (fun c89 => ?_) (fun c89 => ?_)
      · refine j_lload hX dX5_busy_96 rfl ?_
        exact j_lret hX hR dX5_busy_98 ⟨by unfold busyF; (repeat' split) <;> first | (exfalso; omega) | (rw [hx1, show o = n by omega]) | (rw [hx2, show o = n by omega]), hL1, hF1⟩
      · refine j_lload_n hX dX5_busy_92 rfl ?_
        refine j_goto hX 98 dX5_busy_93 (by decide) ?_
        exact j_lret hX hR dX5_busy_98 ⟨by unfold busyF; (repeat' split) <;> first | (exfalso; omega) | (rw [hx1, show o = n by omega]) | (rw [hx2, show o = n by omega]), hL1, hF1⟩
    | succ d ih =>
      intro o x y h1 hsd hd hL1 hF1 hx1 hx2
      have hC := hL1.1
      have hn16 := hO.1
      have hm8 := hO.2.1
      have h_C := hC.2.1.1
      have hTL := hC.2.2.1
      have hIL := hC.2.2.2.1
      have hTL9 := hTL
      obtain ⟨mcT, capT, gT, h_TL, -⟩ := hTL9
      have hIL9 := hIL
      obtain ⟨mcI, capI, gI9, h_IL, -⟩ := hIL9
      have h_S := hC.2.1.2
      have hab := ans_b hO (t := o + 1) ⟨by omega, by omega⟩
      have hcb := cntF_b σ n m o
      have hmb := mxF_b hO o (by omega)
      have h_O := hC.task (t := o + 1) ⟨by omega, by omega⟩
      have e9 : 20 + 4 * (o + 1) = 24 + 4 * o := by omega
      have ho9 : 1 ≤ o + 1 ∧ o + 1 ≤ n := by omega
      refine hji ?_
      refine j_iload hX dX5_busy_20 rfl ?_
      refine j_aload_n hX dX5_busy_22 rfl ?_
      refine j_get hX fl_X5_10_7 dX5_busy_23 h_S (by rfl) ?_
      refine j_get hX fl_X5_36_2 dX5_busy_26 h_C (by rfl) ?_
      refine j_callV hX cv_X5_40 (c_size hTL) dX5_busy_29 h_TL rfl rfl (by exact ⟨Nat.le_of_ble_eq_true rfl, Nat.le_of_ble_eq_true rfl⟩) (by exact ⟨Nat.le_of_ble_eq_true rfl, Nat.le_of_ble_eq_true rfl⟩) (by exact Nat.le_of_ble_eq_true rfl) (fun v29 h29 hp29 => ?_) rfl
      obtain ⟨rfl, rfl⟩ := hp29
      refine j_icmp_ge hX 87 dX5_busy_32 (by decide) (by omega) (by omega) (fun c32 => absurd c32 (by omega)) (fun c32 => ?_)
      refine j_aload_n hX dX5_busy_35 rfl ?_
      refine j_aload_n hX dX5_busy_36 rfl ?_
      refine j_get hX fl_X5_10_7 dX5_busy_37 h_S (by rfl) ?_
      refine j_get hX fl_X5_36_2 dX5_busy_40 h_C (by rfl) ?_
      refine j_iload hX dX5_busy_43 rfl ?_
      refine j_callV hX cv_X5_144 (c_get hTL (by omega) (i := o) (x := AD (20 + 4 * (o + 1))) (by omega) (by rw [e9])) dX5_busy_45 h_TL rfl rfl (by exact ⟨Nat.le_of_ble_eq_true rfl, Nat.le_of_ble_eq_true rfl⟩) (by exact ⟨Nat.le_of_ble_eq_true rfl, Nat.le_of_ble_eq_true rfl⟩) (by exact Nat.le_of_ble_eq_true rfl) (fun v45 h45 hp45 => ?_) rfl
      obtain ⟨rfl, rfl⟩ := hp45
      refine j_castS hX ck_X5_53 dX5_busy_48 h_O rfl ?_
      refine j_callV hX cv_X5_107 (c_findingOf hL1 hO ho9) dX5_busy_51 h_S rfl rfl (by exact ⟨Nat.le_of_ble_eq_true rfl, Nat.le_of_ble_eq_true rfl⟩) (by exact ⟨Nat.le_of_ble_eq_true rfl, Nat.le_of_ble_eq_true rfl⟩) (by exact Nat.le_of_ble_eq_true rfl) (fun v51 h51 hp51 => ?_) rfl
      obtain ⟨rfl, tu51, sp51, rfl, hr51⟩ := hp51
      have hL51 := hL1.set hO.1 ho9 hr51
      have h_F : hup h1 (AD (23 + 4 * (o + 1))) (.inr (3, FF4 1 (ansF σ n m (o + 1)).1 tu51 sp51)) (AD (23 + 4 * (o + 1))) = _ := hup_eq _ _ _
      refine j_get hX fl_X5_111_3 dX5_busy_54 h_F (by rfl) ?_
      refine j_lstore hX dX5_busy_57 (by decide) ?_
      refine j_lload hX dX5_busy_59 rfl ?_
      refine j_ldc2 hX k_X5_97 (z := -1) (by decide) dX5_busy_61 ?_
      refine j_lcmp_eq hX 81 dX5_busy_64 dX5_busy_65 (by decide) (by omega) (by omega) (fun c64 => ?_) (fun c64 => ?_)
      · refine j_iinc hX dX5_busy_81 rfl (by decide) ?_
        refine j_goto hX 20 dX5_busy_84 (by decide) ?_
        exact j_at (L' := [(0, .ref (AD 15)), (1, .int (iZ side)), (2, .long (lZ _)), (4, .long (lZ _)), (6, .int (iZ (((o + 1) : Nat) : Int)))]) (hjo (ih (o + 1) _ _ _ hsd (by omega) hL51 (hF1.up (by unfold Lv; omega) _) (by show _ = cntF σ n m o + _; split <;> omega) (by show _ = (if mxF σ n m o < _ then _ else _); first | (split <;> omega) | ((repeat' split) <;> omega)))) ⟨rfl, rfl, rfl, rfl, rfl, trivial⟩
      · refine j_lload_n hX dX5_busy_68 rfl ?_
        refine j_lconst1 hX dX5_busy_69 ?_
        refine j_ladd hX dX5_busy_70 ?_
        refine j_lstore_n hX dX5_busy_71 (by decide) ?_
        refine j_lload hX dX5_busy_72 rfl ?_
        refine j_lload hX dX5_busy_74 rfl ?_
        refine j_lmax hX mx_X5_148.1 mx_X5_148.2.1 mx_X5_148.2.2.1 mx_X5_148.2.2.2 dX5_busy_76 (by omega) (by omega) (by exact ⟨Nat.le_of_ble_eq_true rfl, Nat.le_of_ble_eq_true rfl⟩) (by exact ⟨Nat.le_of_ble_eq_true rfl, Nat.le_of_ble_eq_true rfl⟩) ?_
        refine j_lstore hX dX5_busy_79 (by decide) ?_
        refine j_iinc hX dX5_busy_81 rfl (by decide) ?_
        refine j_goto hX 20 dX5_busy_84 (by decide) ?_
        exact j_at (L' := [(0, .ref (AD 15)), (1, .int (iZ side)), (2, .long (lZ _)), (4, .long (lZ _)), (6, .int (iZ (((o + 1) : Nat) : Int)))]) (hjo (ih (o + 1) _ _ _ hsd (by omega) hL51 (hF1.up (by unfold Lv; omega) _) (by show _ = cntF σ n m o + _; split <;> omega) (by show _ = (if mxF σ n m o < _ then _ else _); first | (split <;> omega) | ((repeat' split) <;> omega)))) ⟨rfl, rfl, rfl, rfl, rfl, trivial⟩
  refine hji ?_
  refine j_iload_n hX dX5_busy_0 rfl ?_
  refine j_if_ne hX 12 dX5_busy_1 (by decide) (by omega) (fun c1 => ?_) (fun c1 => ?_)
  · refine j_lconst0 hX dX5_busy_12 ?_
    refine j_lstore_n hX dX5_busy_13 (by decide) ?_
    refine j_lconst0 hX dX5_busy_14 ?_
    refine j_lstore hX dX5_busy_15 (by decide) ?_
    refine j_iconst hX dX5_busy_17 ?_
    refine j_istore hX dX5_busy_18 (by decide) ?_
    exact j_at (L' := [(0, .ref (AD 15)), (1, .int (iZ side)), (2, .long (lZ _)), (4, .long (lZ _)), (6, .int (iZ ((0 : Nat) : Int)))]) (hjo (lp n 0 _ _ _ (by omega) (by omega) hL (Fc.rf h AD n m) rfl rfl)) ⟨rfl, rfl, rfl, rfl, rfl, trivial⟩
  · refine j_aload_n hX dX5_busy_4 rfl ?_
    refine j_get hX fl_X5_10_7 dX5_busy_5 h_S (by rfl) ?_
    refine j_callV hX cv_X5_140 (c_wholeLoad hC hO) dX5_busy_8 h_C rfl rfl (by exact ⟨Nat.le_of_ble_eq_true rfl, Nat.le_of_ble_eq_true rfl⟩) (by exact ⟨Nat.le_of_ble_eq_true rfl, Nat.le_of_ble_eq_true rfl⟩) (by exact Nat.le_of_ble_eq_true rfl) (fun v8 h8 hp8 => ?_) rfl
    obtain ⟨rfl, rfl⟩ := hp8
    exact j_lret hX hR dX5_busy_11 ⟨by rw [busyF, if_pos (by omega)], hL, Fc.rf h AD n m⟩
set_option maxRecDepth 100000 in
set_option maxHeartbeats 4000000 in
theorem c_allHave {l : Launch} {G : Gt} {B : Nat} {h : hF} {AD : Nat → Nat} {σ : St} {n m : Nat} (hC0 : Cr G h AD σ n m) (hO : OK n m σ) : Ct l G B yX5_allHaveAnswers cX5_allHaveAnswers 2 (some .boolean) 6 0 0 [.ref (AD 15)] h (fun v h' => (∃ x : Int, v = .int (iZ x) ∧ flg x (allA σ n m)) ∧ Cr G h' AD σ n m ∧ ∀ a, a ≠ AD 14 → h' a = h a) := by
  refine Ct.of (by decide) (Nat.le_of_ble_eq_true rfl) ?_
  intro p e s m9 below meth c A hX hR hin
  have hn16 := hO.1
  have hm8 := hO.2.1
  refine J_abs (J0 := J p l e _ s m9 _ below meth c _ _ G A) ?_
  intro JX hji hjo
  have lp : ∀ (d o : Nat) (h1 : hF), d + o = n → Cr G h1 AD σ n m → (∀ a, a ≠ AD 14 → h1 a = h a) → alU σ n m (o + 1) → JX 0 0 2 [(0, .ref (AD 15)), (1, .int (iZ ((o : Nat) : Int)))] [] h1 := by
    intro d
    induction d with
    | zero =>
      intro o h1 hd hC1 hE hx
      have hC := hC1
      have hn16 := hO.1
      have hm8 := hO.2.1
      have h_C := hC.2.1.1
      have hTL := hC.2.2.1
      have hIL := hC.2.2.2.1
      have hTL9 := hTL
      obtain ⟨mcT, capT, gT, h_TL, -⟩ := hTL9
      have hIL9 := hIL
      obtain ⟨mcI, capI, gI9, h_IL, -⟩ := hIL9
      have h_S := hC.2.1.2
      obtain ⟨ra, rb, rc, rd, h_R, hra⟩ := hC1.2.2.2.2.2.2.2.2
      refine hji ?_
      refine j_iload_n hX dX5_allHaveAnswers_2 rfl ?_
      refine j_aload_n hX dX5_allHaveAnswers_3 rfl ?_
      refine j_get hX fl_X5_10_7 dX5_allHaveAnswers_4 h_S (by rfl) ?_
      refine j_get hX fl_X5_36_2 dX5_allHaveAnswers_7 h_C (by rfl) ?_
      refine j_callV hX cv_X5_40 (c_size hTL) dX5_allHaveAnswers_10 h_TL rfl rfl (by exact ⟨Nat.le_of_ble_eq_true rfl, Nat.le_of_ble_eq_true rfl⟩) (by exact ⟨Nat.le_of_ble_eq_true rfl, Nat.le_of_ble_eq_true rfl⟩) (by exact Nat.le_of_ble_eq_true rfl) (fun v10 h10 hp10 => ?_) rfl
      obtain ⟨rfl, rfl⟩ := hp10
      refine j_icmp_ge hX 63 dX5_allHaveAnswers_13 (by decide) (by omega) (by omega) (fun c13 => ?_) (fun c13 => absurd c13 (by omega))
      refine j_iconst hX dX5_allHaveAnswers_63 ?_
      exact j_zret hX hR dX5_allHaveAnswers_64 (by omega) ⟨⟨1, rfl, Or.inl ⟨rfl, (alU_all (by omega)).mp hx⟩⟩, hC1, hE⟩
    | succ d ih =>
      intro o h1 hd hC1 hE hx
      have hC := hC1
      have hn16 := hO.1
      have hm8 := hO.2.1
      have h_C := hC.2.1.1
      have hTL := hC.2.2.1
      have hIL := hC.2.2.2.1
      have hTL9 := hTL
      obtain ⟨mcT, capT, gT, h_TL, -⟩ := hTL9
      have hIL9 := hIL
      obtain ⟨mcI, capI, gI9, h_IL, -⟩ := hIL9
      have h_S := hC.2.1.2
      obtain ⟨ra, rb, rc, rd, h_R, hra⟩ := hC1.2.2.2.2.2.2.2.2
      have hab := ans_b hO (t := o + 1) ⟨by omega, by omega⟩
      have h_O := hC.task (t := o + 1) ⟨by omega, by omega⟩
      have e9 : 20 + 4 * (o + 1) = 24 + 4 * o := by omega
      refine hji ?_
      refine j_iload_n hX dX5_allHaveAnswers_2 rfl ?_
      refine j_aload_n hX dX5_allHaveAnswers_3 rfl ?_
      refine j_get hX fl_X5_10_7 dX5_allHaveAnswers_4 h_S (by rfl) ?_
      refine j_get hX fl_X5_36_2 dX5_allHaveAnswers_7 h_C (by rfl) ?_
      refine j_callV hX cv_X5_40 (c_size hTL) dX5_allHaveAnswers_10 h_TL rfl rfl (by exact ⟨Nat.le_of_ble_eq_true rfl, Nat.le_of_ble_eq_true rfl⟩) (by exact ⟨Nat.le_of_ble_eq_true rfl, Nat.le_of_ble_eq_true rfl⟩) (by exact Nat.le_of_ble_eq_true rfl) (fun v10 h10 hp10 => ?_) rfl
      obtain ⟨rfl, rfl⟩ := hp10
      refine j_icmp_ge hX 63 dX5_allHaveAnswers_13 (by decide) (by omega) (by omega) (fun c13 => absurd c13 (by omega)) (fun c13 => ?_)
      refine j_aload_n hX dX5_allHaveAnswers_16 rfl ?_
      refine j_get hX fl_X5_10_7 dX5_allHaveAnswers_17 h_S (by rfl) ?_
      refine j_aload_n hX dX5_allHaveAnswers_20 rfl ?_
      refine j_get hX fl_X5_10_7 dX5_allHaveAnswers_21 h_S (by rfl) ?_
      refine j_get hX fl_X5_36_2 dX5_allHaveAnswers_24 h_C (by rfl) ?_
      refine j_iload_n hX dX5_allHaveAnswers_27 rfl ?_
      refine j_callV hX cv_X5_144 (c_get hTL (by omega) (i := o) (x := AD (20 + 4 * (o + 1))) (by omega) (by rw [e9])) dX5_allHaveAnswers_28 h_TL rfl rfl (by exact ⟨Nat.le_of_ble_eq_true rfl, Nat.le_of_ble_eq_true rfl⟩) (by exact ⟨Nat.le_of_ble_eq_true rfl, Nat.le_of_ble_eq_true rfl⟩) (by exact Nat.le_of_ble_eq_true rfl) (fun v28 h28 hp28 => ?_) rfl
      obtain ⟨rfl, rfl⟩ := hp28
      refine j_castS hX ck_X5_53 dX5_allHaveAnswers_31 h_O rfl ?_
      refine j_aload_n hX dX5_allHaveAnswers_34 rfl ?_
      refine j_get hX fl_X5_26_7 dX5_allHaveAnswers_35 h_S (by rfl) ?_
      refine j_callVv hX cv_X5_187 (c_find hC1 hO (t := o + 1) ⟨by omega, by omega⟩ (Or.inl rfl) h_R) dX5_allHaveAnswers_38 h_C rfl rfl (by exact ⟨Nat.le_of_ble_eq_true rfl, Nat.le_of_ble_eq_true rfl⟩) (by exact ⟨Nat.le_of_ble_eq_true rfl, Nat.le_of_ble_eq_true rfl⟩) (by exact Nat.le_of_ble_eq_true rfl) (fun h38 hp38 => ?_) rfl
      obtain ⟨tu9, sp9, rfl, hr9⟩ := hp38
      have hC2 := hC1.fnd hO.1 (Or.inl rfl) 1 (ansF σ n m (o + 1)).1 tu9 sp9 (Or.inr rfl)
      have h_S := hC2.2.1.2
      have h_C := hC2.2.1.1
      have h_R : hup h1 (AD 14) (.inr (3, FF4 1 (ansF σ n m (o + 1)).1 tu9 sp9)) (AD 14) = _ := hup_eq _ _ _
      have hE2 : ∀ a, a ≠ AD 14 → hup h1 (AD 14) (.inr (3, FF4 1 (ansF σ n m (o + 1)).1 tu9 sp9)) a = h a := fun a q9 => (hup_ne q9).trans (hE a q9)
      refine j_aload_n hX dX5_allHaveAnswers_41 rfl ?_
      refine j_get hX fl_X5_26_7 dX5_allHaveAnswers_42 h_S (by rfl) ?_
      refine j_get hX fl_X5_111_3 dX5_allHaveAnswers_45 h_R (by rfl) ?_
      refine j_ldc2 hX k_X5_97 (z := -1) (by decide) dX5_allHaveAnswers_48 ?_
      refine j_lcmp_ne hX 57 dX5_allHaveAnswers_51 dX5_allHaveAnswers_52 (by decide) (by omega) (by omega) (fun c51 => ?_) (fun c51 => ?_)
      · refine j_iinc hX dX5_allHaveAnswers_57 rfl (by decide) ?_
        refine j_goto hX 2 dX5_allHaveAnswers_60 (by decide) ?_
        exact j_at (L' := [(0, .ref (AD 15)), (1, .int (iZ (((o + 1) : Nat) : Int)))]) (hjo (ih (o + 1) _ (by omega) hC2 hE2 ((alU_step (by omega)).mpr ⟨hx, by omega⟩))) ⟨rfl, rfl, trivial⟩
      · refine j_iconst hX dX5_allHaveAnswers_55 ?_
        exact j_zret hX hR dX5_allHaveAnswers_56 (by omega) ⟨⟨0, rfl, Or.inr ⟨rfl, fun z9 => z9 (o + 1) (by omega) (by omega) (by omega)⟩⟩, hC2, hE2⟩
  refine hji ?_
  refine j_iconst hX dX5_allHaveAnswers_0 ?_
  refine j_istore_n hX dX5_allHaveAnswers_1 (by decide) ?_
  exact j_at (L' := [(0, .ref (AD 15)), (1, .int (iZ ((0 : Nat) : Int)))]) (hjo (lp n 0 h (by omega) hC0 (fun _ _ => rfl) (fun o h1 h2 => absurd h1 (by omega)))) ⟨rfl, rfl, trivial⟩
