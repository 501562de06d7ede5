/-! THE REFERENCE: what its callers set; its rows of reasons; its start -/
def st1 (σ : St) (k t : Nat) (x : Int) : St := sup σ k (zup (σ k) t x)
theorem st1_at (σ : St) (k t : Nat) (x : Int) (j i : Nat) : st1 σ k t x j i = if j = k ∧ i = t then x else σ j i := by
  unfold st1 sup
  by_cases h : j = k
  · subst h
    rw [if_pos rfl]; unfold zup
    by_cases h2 : i = t
    · rw [if_pos h2, if_pos ⟨rfl, h2⟩]
    · rw [if_neg h2, if_neg (fun z => h2 z.2)]
  · rw [if_neg h, if_neg (fun z => h z.1)]
def setR (n : Nat) (z lo hi x : Int) : Int := if 1 ≤ z ∧ z ≤ n then (if lo ≤ x ∧ x ≤ hi then 1 else -2) else -1
def setS (σ : St) (n k : Nat) (z lo hi x : Int) : St := if (1 ≤ z ∧ z ≤ n) ∧ (lo ≤ x ∧ x ≤ hi) then st1 σ k z.toNat x else σ
def burR (n : Nat) (z y x : Int) : Int := if 1 ≤ z ∧ z ≤ n then (if (1 ≤ y ∧ y ≤ 20) ∧ (1 ≤ x ∧ x ≤ 20000) then 1 else -2) else -1
def burS (σ : St) (n : Nat) (z y x : Int) : St := if (1 ≤ z ∧ z ≤ n) ∧ (1 ≤ y ∧ y ≤ 20) ∧ (1 ≤ x ∧ x ≤ 20000) then st1 (st1 σ 4 z.toNat y) 5 z.toNat x else σ
def secR (σ : St) (n : Nat) (z y x : Int) : Int := if 1 ≤ z ∧ z ≤ n then (if (1 ≤ y ∧ y ≤ 32) ∧ (1 ≤ x ∧ x ≤ 1000) then (if σ 8 z.toNat = 10 then -4 else σ 8 z.toNat + 1) else -2) else -1
def secS (σ : St) (n : Nat) (z y x : Int) : St := if (1 ≤ z ∧ z ≤ n) ∧ (1 ≤ y ∧ y ≤ 32) ∧ (1 ≤ x ∧ x ≤ 1000) ∧ σ 8 z.toNat ≠ 10 then st1 (st1 (st1 σ 9 (10 * z.toNat - 10 + (σ 8 z.toNat).toNat) y) 10 (10 * z.toNat - 10 + (σ 8 z.toNat).toNat) x) 8 z.toNat (σ 8 z.toNat + 1) else σ
def tskR (n : Nat) (ow pe ra : Int) : Int := if (1 ≤ ow ∧ ow ≤ 1000) ∧ (0 ≤ pe ∧ pe ≤ 20000) ∧ (0 ≤ ra ∧ ra ≤ 255) then (if n = 16 then -4 else if pe = 0 then 0 else n + 1) else -2
def tskN (n : Nat) (ow pe ra : Int) : Nat := if (1 ≤ ow ∧ ow ≤ 1000) ∧ (1 ≤ pe ∧ pe ≤ 20000) ∧ (0 ≤ ra ∧ ra ≤ 255) ∧ n ≠ 16 then n + 1 else n
def tskS (σ : St) (t : Nat) (ow pe ra : Int) : St := st1 (st1 (st1 (st1 (st1 (st1 (st1 (st1 (st1 σ 0 t ow) 1 t pe) 2 t ra) 3 t 0) 4 t 1) 5 t 1) 6 t 0) 7 t (-1)) 8 t 0
def tskT (σ : St) (n : Nat) (ow pe ra : Int) : St := if (1 ≤ ow ∧ ow ≤ 1000) ∧ (1 ≤ pe ∧ pe ≤ 20000) ∧ (0 ≤ ra ∧ ra ≤ 255) ∧ n ≠ 16 then tskS σ (n + 1) ow pe ra else σ
def tskH (n : Nat) (ow pe ra : Int) : Int := if (1 ≤ ow ∧ ow ≤ 1000) ∧ pe = 0 ∧ (0 ≤ ra ∧ ra ≤ 255) ∧ n ≠ 16 then 1 else 0
def intR (m : Nat) (ow pe : Int) : Int := if (1 ≤ ow ∧ ow ≤ 1000) ∧ (1 ≤ pe ∧ pe ≤ 20000) then (if m = 8 then -4 else m + 1) else -2
def intN (m : Nat) (ow pe : Int) : Nat := if (1 ≤ ow ∧ ow ≤ 1000) ∧ (1 ≤ pe ∧ pe ≤ 20000) ∧ m ≠ 8 then m + 1 else m
def intS (σ : St) (m : Nat) (ow pe : Int) : St := if (1 ≤ ow ∧ ow ≤ 1000) ∧ (1 ≤ pe ∧ pe ≤ 20000) ∧ m ≠ 8 then st1 (st1 σ 12 (m + 1) ow) 13 (m + 1) pe else σ
set_option maxRecDepth 100000 in
set_option maxHeartbeats 4000000 in
theorem c6_thrown {l : Launch} {G : Gt} {B : Nat} {h : hF} {b : Nat} {A9 : Nat → Nat} {σ : St} {n m : Nat} {sp tu th : Int} (hM : Mo G h b A9 σ n m sp tu th) : Ct l G B yX6_thrown cX6_thrown 1 (some .int) 0 0 0 [.ref b] h (fun v h' => v = .int (iZ th) ∧ h = h') := by
  refine Ct.of (by decide) (Nat.le_of_ble_eq_true rfl) ?_
  intro p e s m9 below meth c A hX hR hin
  have h_M := hM.1
  refine j_aload_n hX dX6_thrown_0 rfl ?_
  refine j_get hX fl_X6_63_8 dX6_thrown_1 h_M (by rfl) ?_
  exact j_iret hX hR dX6_thrown_4 ⟨rfl, rfl⟩
set_option maxRecDepth 100000 in
set_option maxHeartbeats 4000000 in
theorem c6_jitter {l : Launch} {G : Gt} {B : Nat} {h : hF} {b : Nat} {A9 : Nat → Nat} {σ : St} {n m : Nat} {sp tu th : Int} (hM : Mo G h b A9 σ n m sp tu th) (hO : OK n m σ) {z : Int} (hz : -2147483648 ≤ z ∧ z < 2147483648) {x : Int} (hx9 : -9223372036854775808 ≤ x ∧ x < 9223372036854775808) : Ct l G B yX6_jitter cX6_jitter 4 (some .int) 1 0 0 [.ref b, .int (iZ z), .long (lZ x)] h (fun v h' => v = .int (iZ (setR n z 0 20000 x)) ∧ ∃ sp2 tu2 : Int, Mo G h' b A9 (setS σ n 3 z 0 20000 x) n m sp2 tu2 0 ∧ Fm h h' b A9) := by
  refine Ct.of (by decide) (Nat.le_of_ble_eq_true rfl) ?_
  intro p e s m9 below meth c A hX hR hin
  have hn16 := hO.1
  have hm8 := hO.2.1
  have h_M := hM.1
  refine j_aload_n hX dX6_jitter_0 rfl ?_
  refine j_iconst hX dX6_jitter_1 ?_
  refine j_putE hX fp_X6_63_8 dX6_jitter_2 h_M rfl rfl (Nat.le_of_ble_eq_true rfl) (fs2 := (MF A9 n m sp tu 0)) rfl ?_
  have hM0 := hM.fld (n' := n) (m' := m) (sp' := sp) (tu' := tu) (th' := 0)
  have h_M := hM0.1
  have hF0 : Fm h _ b A9 := (Fm.rf h b A9).b (.inr (8, MF A9 n m sp tu 0))
  refine j_aload_n hX dX6_jitter_5 rfl ?_
  refine j_iload_n hX dX6_jitter_6 rfl ?_
  refine j_callV hX cv_X6_82 (c6_isTaskF hM0 (by omega) (by omega)) dX6_jitter_7 h_M rfl rfl (by exact ⟨Nat.le_of_ble_eq_true rfl, Nat.le_of_ble_eq_true rfl⟩) (by exact ⟨Nat.le_of_ble_eq_true rfl, Nat.le_of_ble_eq_true rfl⟩) (by exact Nat.le_of_ble_eq_true rfl) (fun v7 h7 hp7 => ?_) rfl
  obtain ⟨⟨y7, rfl, hy7⟩, rfl⟩ := hp7
  refine j_if_ne hX 15 dX6_jitter_10 (by decide) (by omega) (fun c10 => ?_) (fun c10 => ?_)
  · obtain ⟨t, rfl⟩ : ∃ t : Nat, z = (t : Int) := ⟨z.toNat, by omega⟩
    have h_a3 := hM0.a3
    refine j_lload_n hX dX6_jitter_15 rfl ?_
    refine j_lconst0 hX dX6_jitter_16 ?_
    refine j_ldc2 hX k_X6_76 (z := 20000) (by decide) dX6_jitter_17 ?_
    refine j_callS hX cs_X6_72 (c6_withinF (by omega) (by omega) (by omega)) dX6_jitter_20 rfl (by exact ⟨Nat.le_of_ble_eq_true rfl, Nat.le_of_ble_eq_true rfl⟩) (by exact ⟨Nat.le_of_ble_eq_true rfl, Nat.le_of_ble_eq_true rfl⟩) (by exact Nat.le_of_ble_eq_true rfl) (fun v20 h20 hp20 => ?_) rfl
    obtain ⟨⟨y20, rfl, hy20⟩, rfl⟩ := hp20
    refine j_if_ne hX 29 dX6_jitter_23 (by decide) (by omega) (fun c23 => ?_) (fun c23 => ?_)
    · refine j_aload_n hX dX6_jitter_29 rfl ?_
      refine j_get hX fl_X6_20_8 dX6_jitter_30 h_M (by rfl) ?_
      refine j_iload_n hX dX6_jitter_33 rfl ?_
      refine j_lload_n hX dX6_jitter_34 rfl ?_
      refine j_lastN hX _ rfl dX6_jitter_35 h_a3 (by omega) (by decide) ?_
      have hM1 := hM0.arr (k := 3) rfl (zup (σ 3) t x)
      have hF1 := hF0.a (k := 3) rfl (gJ G 17 (zup (σ 3) t x))
      have h_M := hM1.1
      refine j_iconst hX dX6_jitter_36 ?_
      exact j_iret hX hR dX6_jitter_37 ⟨by unfold setR; (repeat' split) <;> first | rfl | (exfalso; omega), sp, tu, by rw [setS, if_pos ⟨by omega, by omega⟩]; exact hM1, hF1⟩
    · refine j_bipush hX dX6_jitter_26 (by decide) ?_
      exact j_iret hX hR dX6_jitter_28 ⟨by unfold setR; (repeat' split) <;> first | rfl | (exfalso; omega), sp, tu, by rw [setS, if_neg (by omega)]; exact hM0, hF0⟩
  · refine j_iconst hX dX6_jitter_13 ?_
    exact j_iret hX hR dX6_jitter_14 ⟨by unfold setR; (repeat' split) <;> first | rfl | (exfalso; omega), sp, tu, by rw [setS, if_neg (by omega)]; exact hM0, hF0⟩
set_option maxRecDepth 100000 in
set_option maxHeartbeats 4000000 in
theorem c6_spin {l : Launch} {G : Gt} {B : Nat} {h : hF} {b : Nat} {A9 : Nat → Nat} {σ : St} {n m : Nat} {sp tu th : Int} (hM : Mo G h b A9 σ n m sp tu th) (hO : OK n m σ) {z : Int} (hz : -2147483648 ≤ z ∧ z < 2147483648) {x : Int} (hx9 : -9223372036854775808 ≤ x ∧ x < 9223372036854775808) : Ct l G B yX6_spin cX6_spin 4 (some .int) 1 0 0 [.ref b, .int (iZ z), .long (lZ x)] h (fun v h' => v = .int (iZ (setR n z 0 1000 x)) ∧ ∃ sp2 tu2 : Int, Mo G h' b A9 (setS σ n 6 z 0 1000 x) n m sp2 tu2 0 ∧ Fm h h' b A9) := by
  refine Ct.of (by decide) (Nat.le_of_ble_eq_true rfl) ?_
  intro p e s m9 below meth c A hX hR hin
  have hn16 := hO.1
  have hm8 := hO.2.1
  have h_M := hM.1
  refine j_aload_n hX dX6_spin_0 rfl ?_
  refine j_iconst hX dX6_spin_1 ?_
  refine j_putE hX fp_X6_63_8 dX6_spin_2 h_M rfl rfl (Nat.le_of_ble_eq_true rfl) (fs2 := (MF A9 n m sp tu 0)) rfl ?_
  have hM0 := hM.fld (n' := n) (m' := m) (sp' := sp) (tu' := tu) (th' := 0)
  have h_M := hM0.1
  have hF0 : Fm h _ b A9 := (Fm.rf h b A9).b (.inr (8, MF A9 n m sp tu 0))
  refine j_aload_n hX dX6_spin_5 rfl ?_
  refine j_iload_n hX dX6_spin_6 rfl ?_
  refine j_callV hX cv_X6_82 (c6_isTaskF hM0 (by omega) (by omega)) dX6_spin_7 h_M rfl rfl (by exact ⟨Nat.le_of_ble_eq_true rfl, Nat.le_of_ble_eq_true rfl⟩) (by exact ⟨Nat.le_of_ble_eq_true rfl, Nat.le_of_ble_eq_true rfl⟩) (by exact Nat.le_of_ble_eq_true rfl) (fun v7 h7 hp7 => ?_) rfl
  obtain ⟨⟨y7, rfl, hy7⟩, rfl⟩ := hp7
  refine j_if_ne hX 15 dX6_spin_10 (by decide) (by omega) (fun c10 => ?_) (fun c10 => ?_)
  · obtain ⟨t, rfl⟩ : ∃ t : Nat, z = (t : Int) := ⟨z.toNat, by omega⟩
    have h_a6 := hM0.a6
    refine j_lload_n hX dX6_spin_15 rfl ?_
    refine j_lconst0 hX dX6_spin_16 ?_
    refine j_ldc2 hX k_X6_70 (z := 1000) (by decide) dX6_spin_17 ?_
    refine j_callS hX cs_X6_72 (c6_withinF (by omega) (by omega) (by omega)) dX6_spin_20 rfl (by exact ⟨Nat.le_of_ble_eq_true rfl, Nat.le_of_ble_eq_true rfl⟩) (by exact ⟨Nat.le_of_ble_eq_true rfl, Nat.le_of_ble_eq_true rfl⟩) (by exact Nat.le_of_ble_eq_true rfl) (fun v20 h20 hp20 => ?_) rfl
    obtain ⟨⟨y20, rfl, hy20⟩, rfl⟩ := hp20
    refine j_if_ne hX 29 dX6_spin_23 (by decide) (by omega) (fun c23 => ?_) (fun c23 => ?_)
    · refine j_aload_n hX dX6_spin_29 rfl ?_
      refine j_get hX fl_X6_29_8 dX6_spin_30 h_M (by rfl) ?_
      refine j_iload_n hX dX6_spin_33 rfl ?_
      refine j_lload_n hX dX6_spin_34 rfl ?_
      refine j_lastN hX _ rfl dX6_spin_35 h_a6 (by omega) (by decide) ?_
      have hM1 := hM0.arr (k := 6) rfl (zup (σ 6) t x)
      have hF1 := hF0.a (k := 6) rfl (gJ G 17 (zup (σ 6) t x))
      have h_M := hM1.1
      refine j_iconst hX dX6_spin_36 ?_
      exact j_iret hX hR dX6_spin_37 ⟨by unfold setR; (repeat' split) <;> first | rfl | (exfalso; omega), sp, tu, by rw [setS, if_pos ⟨by omega, by omega⟩]; exact hM1, hF1⟩
    · refine j_bipush hX dX6_spin_26 (by decide) ?_
      exact j_iret hX hR dX6_spin_28 ⟨by unfold setR; (repeat' split) <;> first | rfl | (exfalso; omega), sp, tu, by rw [setS, if_neg (by omega)]; exact hM0, hF0⟩
  · refine j_iconst hX dX6_spin_13 ?_
    exact j_iret hX hR dX6_spin_14 ⟨by unfold setR; (repeat' split) <;> first | rfl | (exfalso; omega), sp, tu, by rw [setS, if_neg (by omega)]; exact hM0, hF0⟩
def perZ (σ : St) (z : Int) : Int := σ 1 z.toNat - 1
set_option maxRecDepth 100000 in
set_option maxHeartbeats 4000000 in
theorem c6_offset {l : Launch} {G : Gt} {B : Nat} {h : hF} {b : Nat} {A9 : Nat → Nat} {σ : St} {n m : Nat} {sp tu th : Int} (hM : Mo G h b A9 σ n m sp tu th) (hO : OK n m σ) {z : Int} (hz : -2147483648 ≤ z ∧ z < 2147483648) {x : Int} (hx9 : -9223372036854775808 ≤ x ∧ x < 9223372036854775808) : Ct l G B yX6_offset cX6_offset 4 (some .int) 1 0 0 [.ref b, .int (iZ z), .long (lZ x)] h (fun v h' => v = .int (iZ (setR n z (-1) (perZ σ z) x)) ∧ ∃ sp2 tu2 : Int, Mo G h' b A9 (setS σ n 7 z (-1) (perZ σ z) x) n m sp2 tu2 0 ∧ Fm h h' b A9) := by
  refine Ct.of (by decide) (Nat.le_of_ble_eq_true rfl) ?_
  intro p e s m9 below meth c A hX hR hin
  have hn16 := hO.1
  have hm8 := hO.2.1
  have h_M := hM.1
  refine j_aload_n hX dX6_offset_0 rfl ?_
  refine j_iconst hX dX6_offset_1 ?_
  refine j_putE hX fp_X6_63_8 dX6_offset_2 h_M rfl rfl (Nat.le_of_ble_eq_true rfl) (fs2 := (MF A9 n m sp tu 0)) rfl ?_
  have hM0 := hM.fld (n' := n) (m' := m) (sp' := sp) (tu' := tu) (th' := 0)
  have h_M := hM0.1
  have hF0 : Fm h _ b A9 := (Fm.rf h b A9).b (.inr (8, MF A9 n m sp tu 0))
  refine j_aload_n hX dX6_offset_5 rfl ?_
  refine j_iload_n hX dX6_offset_6 rfl ?_
  refine j_callV hX cv_X6_82 (c6_isTaskF hM0 (by omega) (by omega)) dX6_offset_7 h_M rfl rfl (by exact ⟨Nat.le_of_ble_eq_true rfl, Nat.le_of_ble_eq_true rfl⟩) (by exact ⟨Nat.le_of_ble_eq_true rfl, Nat.le_of_ble_eq_true rfl⟩) (by exact Nat.le_of_ble_eq_true rfl) (fun v7 h7 hp7 => ?_) rfl
  obtain ⟨⟨y7, rfl, hy7⟩, rfl⟩ := hp7
  refine j_if_ne hX 15 dX6_offset_10 (by decide) (by omega) (fun c10 => ?_) (fun c10 => ?_)
  · obtain ⟨t, rfl⟩ : ∃ t : Nat, z = (t : Int) := ⟨z.toNat, by omega⟩
    have h_a7 := hM0.a7
    obtain ⟨-, o1, -⟩ := hO.2.2.1 t (by omega) (by omega)
    have h_a1 := hM0.a1
    have hpz : perZ σ (t : Int) = σ 1 t - 1 := rfl
    refine j_lload_n hX dX6_offset_15 rfl ?_
    refine j_ldc2 hX k_X6_80 (z := -1) (by decide) dX6_offset_16 ?_
    refine j_aload_n hX dX6_offset_19 rfl ?_
    refine j_get hX fl_X6_13_8 dX6_offset_20 h_M (by rfl) ?_
    refine j_iload_n hX dX6_offset_23 rfl ?_
    refine j_laldN hX _ rfl dX6_offset_24 h_a1 (by omega) (by decide) ?_
    refine j_lconst1 hX dX6_offset_25 ?_
    refine j_lsub hX dX6_offset_26 ?_
    refine j_callS hX cs_X6_72 (c6_withinF (by omega) (by omega) (by omega)) dX6_offset_27 rfl (by exact ⟨Nat.le_of_ble_eq_true rfl, Nat.le_of_ble_eq_true rfl⟩) (by exact ⟨Nat.le_of_ble_eq_true rfl, Nat.le_of_ble_eq_true rfl⟩) (by exact Nat.le_of_ble_eq_true rfl) (fun v27 h27 hp27 => ?_) rfl
    obtain ⟨⟨y27, rfl, hy27⟩, rfl⟩ := hp27
    refine j_if_ne hX 36 dX6_offset_30 (by decide) (by omega) (fun c30 => ?_) (fun c30 => ?_)
    · refine j_aload_n hX dX6_offset_36 rfl ?_
      refine j_get hX fl_X6_32_8 dX6_offset_37 h_M (by rfl) ?_
      refine j_iload_n hX dX6_offset_40 rfl ?_
      refine j_lload_n hX dX6_offset_41 rfl ?_
      refine j_lastN hX _ rfl dX6_offset_42 h_a7 (by omega) (by decide) ?_
      have hM1 := hM0.arr (k := 7) rfl (zup (σ 7) t x)
      have hF1 := hF0.a (k := 7) rfl (gJ G 17 (zup (σ 7) t x))
      have h_M := hM1.1
      refine j_iconst hX dX6_offset_43 ?_
      exact j_iret hX hR dX6_offset_44 ⟨by unfold setR; (repeat' split) <;> first | rfl | (exfalso; omega), sp, tu, by rw [setS, if_pos ⟨by omega, by omega⟩]; exact hM1, hF1⟩
    · refine j_bipush hX dX6_offset_33 (by decide) ?_
      exact j_iret hX hR dX6_offset_35 ⟨by unfold setR; (repeat' split) <;> first | rfl | (exfalso; omega), sp, tu, by rw [setS, if_neg (by omega)]; exact hM0, hF0⟩
  · refine j_iconst hX dX6_offset_13 ?_
    exact j_iret hX hR dX6_offset_14 ⟨by unfold setR; (repeat' split) <;> first | rfl | (exfalso; omega), sp, tu, by rw [setS, if_neg (by omega)]; exact hM0, hF0⟩
set_option maxRecDepth 100000 in
set_option maxHeartbeats 4000000 in
theorem c6_burst {l : Launch} {G : Gt} {B : Nat} {h : hF} {b : Nat} {A9 : Nat → Nat} {σ : St} {n m : Nat} {sp tu th : Int} (hM : Mo G h b A9 σ n m sp tu th) (hO : OK n m σ) {z : Int} (hz : -2147483648 ≤ z ∧ z < 2147483648) {y : Int} (hy9 : -2147483648 ≤ y ∧ y < 2147483648) {x : Int} (hx9 : -9223372036854775808 ≤ x ∧ x < 9223372036854775808) : Ct l G B yX6_burst cX6_burst 5 (some .int) 1 0 0 [.ref b, .int (iZ z), .int (iZ y), .long (lZ x)] h (fun v h' => v = .int (iZ (burR n z y x)) ∧ ∃ sp2 tu2 : Int, Mo G h' b A9 (burS σ n z y x) n m sp2 tu2 0 ∧ Fm h h' b A9) := by
  refine Ct.of (by decide) (Nat.le_of_ble_eq_true rfl) ?_
  intro p e s m9 below meth c A hX hR hin
  have hn16 := hO.1
  have hm8 := hO.2.1
  have h_M := hM.1
  refine j_aload_n hX dX6_burst_0 rfl ?_
  refine j_iconst hX dX6_burst_1 ?_
  refine j_putE hX fp_X6_63_8 dX6_burst_2 h_M rfl rfl (Nat.le_of_ble_eq_true rfl) (fs2 := (MF A9 n m sp tu 0)) rfl ?_
  have hM0 := hM.fld (n' := n) (m' := m) (sp' := sp) (tu' := tu) (th' := 0)
  have h_M := hM0.1
  have hF0 : Fm h _ b A9 := (Fm.rf h b A9).b (.inr (8, MF A9 n m sp tu 0))
  refine j_aload_n hX dX6_burst_5 rfl ?_
  refine j_iload_n hX dX6_burst_6 rfl ?_
  refine j_callV hX cv_X6_82 (c6_isTaskF hM0 (by omega) (by omega)) dX6_burst_7 h_M rfl rfl (by exact ⟨Nat.le_of_ble_eq_true rfl, Nat.le_of_ble_eq_true rfl⟩) (by exact ⟨Nat.le_of_ble_eq_true rfl, Nat.le_of_ble_eq_true rfl⟩) (by exact Nat.le_of_ble_eq_true rfl) (fun v7 h7 hp7 => ?_) rfl
  obtain ⟨⟨y7, rfl, hy7⟩, rfl⟩ := hp7
  refine j_if_ne hX 15 dX6_burst_10 (by decide) (by omega) (fun c10 => ?_) (fun c10 => ?_)
  · obtain ⟨t, rfl⟩ : ∃ t : Nat, z = (t : Int) := ⟨z.toNat, by omega⟩
    have h_a4 := hM0.a4
    refine j_iload_n hX dX6_burst_15 rfl ?_
    refine j_i2l hX dX6_burst_16 (by omega) ?_
    refine j_lconst1 hX dX6_burst_17 ?_
    refine j_ldc2 hX k_X6_86 (z := 20) (by decide) dX6_burst_18 ?_
    refine j_callS hX cs_X6_72 (c6_withinF (by omega) (by omega) (by omega)) dX6_burst_21 rfl (by exact ⟨Nat.le_of_ble_eq_true rfl, Nat.le_of_ble_eq_true rfl⟩) (by exact ⟨Nat.le_of_ble_eq_true rfl, Nat.le_of_ble_eq_true rfl⟩) (by exact Nat.le_of_ble_eq_true rfl) (fun v21 h21 hp21 => ?_) rfl
    obtain ⟨⟨y21, rfl, hy21⟩, rfl⟩ := hp21
    refine j_if_eq hX 38 dX6_burst_24 (by decide) (by omega) (fun c24 => ?_) (fun c24 => ?_)
    · refine j_bipush hX dX6_burst_38 (by decide) ?_
      exact j_iret hX hR dX6_burst_40 ⟨by unfold burR; (repeat' split) <;> first | rfl | (exfalso; omega), sp, tu, by rw [burS, if_neg (by omega)]; exact hM0, hF0⟩
    · refine j_lload_n hX dX6_burst_27 rfl ?_
      refine j_lconst1 hX dX6_burst_28 ?_
      refine j_ldc2 hX k_X6_76 (z := 20000) (by decide) dX6_burst_29 ?_
      refine j_callS hX cs_X6_72 (c6_withinF (by omega) (by omega) (by omega)) dX6_burst_32 rfl (by exact ⟨Nat.le_of_ble_eq_true rfl, Nat.le_of_ble_eq_true rfl⟩) (by exact ⟨Nat.le_of_ble_eq_true rfl, Nat.le_of_ble_eq_true rfl⟩) (by exact Nat.le_of_ble_eq_true rfl) (fun v32 h32 hp32 => ?_) rfl
      obtain ⟨⟨y32, rfl, hy32⟩, rfl⟩ := hp32
      refine j_if_ne hX 41 dX6_burst_35 (by decide) (by omega) (fun c35 => ?_) (fun c35 => ?_)
      · refine j_aload_n hX dX6_burst_41 rfl ?_
        refine j_get hX fl_X6_23_8 dX6_burst_42 h_M (by rfl) ?_
        refine j_iload_n hX dX6_burst_45 rfl ?_
        refine j_iload_n hX dX6_burst_46 rfl ?_
        refine j_iastN hX _ rfl dX6_burst_47 h_a4 (by omega) (by decide) ?_
        have hM1 := hM0.arr (k := 4) rfl (zup (σ 4) t y)
        have hF1 := hF0.a (k := 4) rfl (gI G 17 (zup (σ 4) t y))
        have h_M := hM1.1
        have h_a5 : _ = some (gJ G 17 (σ 5)) := hM1.a5
        refine j_aload_n hX dX6_burst_48 rfl ?_
        refine j_get hX fl_X6_26_8 dX6_burst_49 h_M (by rfl) ?_
        refine j_iload_n hX dX6_burst_52 rfl ?_
        refine j_lload_n hX dX6_burst_53 rfl ?_
        refine j_lastN hX _ rfl dX6_burst_54 h_a5 (by omega) (by decide) ?_
        have hM2 := hM1.arr (k := 5) rfl (zup (σ 5) t x)
        have hF2 := hF1.a (k := 5) rfl (gJ G 17 (zup (σ 5) t x))
        have h_M := hM2.1
        refine j_iconst hX dX6_burst_55 ?_
        exact j_iret hX hR dX6_burst_56 ⟨by unfold burR; (repeat' split) <;> first | rfl | (exfalso; omega), sp, tu, by rw [burS, if_pos ⟨by omega, by omega, by omega⟩]; exact hM2, hF2⟩
      · refine j_bipush hX dX6_burst_38 (by decide) ?_
        exact j_iret hX hR dX6_burst_40 ⟨by unfold burR; (repeat' split) <;> first | rfl | (exfalso; omega), sp, tu, by rw [burS, if_neg (by omega)]; exact hM0, hF0⟩
  · refine j_iconst hX dX6_burst_13 ?_
    exact j_iret hX hR dX6_burst_14 ⟨by unfold burR; (repeat' split) <;> first | rfl | (exfalso; omega), sp, tu, by rw [burS, if_neg (by omega)]; exact hM0, hF0⟩
set_option maxRecDepth 100000 in
set_option maxHeartbeats 4000000 in
theorem c6_section {l : Launch} {G : Gt} {B : Nat} {h : hF} {b : Nat} {A9 : Nat → Nat} {σ : St} {n m : Nat} {sp tu th : Int} (hM : Mo G h b A9 σ n m sp tu th) (hO : OK n m σ) {z : Int} (hz : -2147483648 ≤ z ∧ z < 2147483648) {y : Int} (hy9 : -2147483648 ≤ y ∧ y < 2147483648) {x : Int} (hx9 : -9223372036854775808 ≤ x ∧ x < 9223372036854775808) : Ct l G B yX6_section cX6_section 5 (some .int) 1 0 0 [.ref b, .int (iZ z), .int (iZ y), .long (lZ x)] h (fun v h' => v = .int (iZ (secR σ n z y x)) ∧ ∃ sp2 tu2 : Int, Mo G h' b A9 (secS σ n z y x) n m sp2 tu2 0 ∧ Fm h h' b A9) := by
  refine Ct.of (by decide) (Nat.le_of_ble_eq_true rfl) ?_
  intro p e s m9 below meth c A hX hR hin
  have hn16 := hO.1
  have hm8 := hO.2.1
  have h_M := hM.1
  refine j_aload_n hX dX6_section_0 rfl ?_
  refine j_iconst hX dX6_section_1 ?_
  refine j_putE hX fp_X6_63_8 dX6_section_2 h_M rfl rfl (Nat.le_of_ble_eq_true rfl) (fs2 := (MF A9 n m sp tu 0)) rfl ?_
  have hM0 := hM.fld (n' := n) (m' := m) (sp' := sp) (tu' := tu) (th' := 0)
  have h_M := hM0.1
  have hF0 : Fm h _ b A9 := (Fm.rf h b A9).b (.inr (8, MF A9 n m sp tu 0))
  refine j_aload_n hX dX6_section_5 rfl ?_
  refine j_iload_n hX dX6_section_6 rfl ?_
  refine j_callV hX cv_X6_82 (c6_isTaskF hM0 (by omega) (by omega)) dX6_section_7 h_M rfl rfl (by exact ⟨Nat.le_of_ble_eq_true rfl, Nat.le_of_ble_eq_true rfl⟩) (by exact ⟨Nat.le_of_ble_eq_true rfl, Nat.le_of_ble_eq_true rfl⟩) (by exact Nat.le_of_ble_eq_true rfl) (fun v7 h7 hp7 => ?_) rfl
  obtain ⟨⟨y7, rfl, hy7⟩, rfl⟩ := hp7
  refine j_if_ne hX 15 dX6_section_10 (by decide) (by omega) (fun c10 => ?_) (fun c10 => ?_)
  · obtain ⟨t, rfl⟩ : ∃ t : Nat, z = (t : Int) := ⟨z.toNat, by omega⟩
    have h_a8 := hM0.a8
    have h_a9 := hM0.a9
    obtain ⟨-, -, -, -, -, -, -, -, o8, -⟩ := hO.2.2.1 t (by omega) (by omega)
    have ht8 : ((t : Int).toNat) = t := rfl
    refine j_iload_n hX dX6_section_15 rfl ?_
    refine j_i2l hX dX6_section_16 (by omega) ?_
    refine j_lconst1 hX dX6_section_17 ?_
    refine j_ldc2 hX k_X6_88 (z := 32) (by decide) dX6_section_18 ?_
    refine j_callS hX cs_X6_72 (c6_withinF (by omega) (by omega) (by omega)) dX6_section_21 rfl (by exact ⟨Nat.le_of_ble_eq_true rfl, Nat.le_of_ble_eq_true rfl⟩) (by exact ⟨Nat.le_of_ble_eq_true rfl, Nat.le_of_ble_eq_true rfl⟩) (by exact Nat.le_of_ble_eq_true rfl) (fun v21 h21 hp21 => ?_) rfl
    obtain ⟨⟨y21, rfl, hy21⟩, rfl⟩ := hp21
    refine j_if_eq hX 38 dX6_section_24 (by decide) (by omega) (fun c24 => ?_) (fun c24 => ?_)
    · refine j_bipush hX dX6_section_38 (by decide) ?_
      exact j_iret hX hR dX6_section_40 ⟨by unfold secR; (repeat' split) <;> first | rfl | (exfalso; omega), sp, tu, by rw [secS, if_neg (by omega)]; exact hM0, hF0⟩
    · refine j_lload_n hX dX6_section_27 rfl ?_
      refine j_lconst1 hX dX6_section_28 ?_
      refine j_ldc2 hX k_X6_70 (z := 1000) (by decide) dX6_section_29 ?_
      refine j_callS hX cs_X6_72 (c6_withinF (by omega) (by omega) (by omega)) dX6_section_32 rfl (by exact ⟨Nat.le_of_ble_eq_true rfl, Nat.le_of_ble_eq_true rfl⟩) (by exact ⟨Nat.le_of_ble_eq_true rfl, Nat.le_of_ble_eq_true rfl⟩) (by exact Nat.le_of_ble_eq_true rfl) (fun v32 h32 hp32 => ?_) rfl
      obtain ⟨⟨y32, rfl, hy32⟩, rfl⟩ := hp32
      refine j_if_ne hX 41 dX6_section_35 (by decide) (by omega) (fun c35 => ?_) (fun c35 => ?_)
      · refine j_aload_n hX dX6_section_41 rfl ?_
        refine j_get hX fl_X6_35_8 dX6_section_42 h_M (by rfl) ?_
        refine j_iload_n hX dX6_section_45 rfl ?_
        refine j_ialdN hX _ rfl dX6_section_46 h_a8 (by omega) (by decide) ?_
        refine j_bipush hX dX6_section_47 (by decide) ?_
        refine j_icmp_ne hX 55 dX6_section_49 (by decide) (by omega) (by omega) (fun c49 => ?_) (fun c49 => ?_)
        · refine j_aload_n hX dX6_section_55 rfl ?_
          refine j_get hX fl_X6_38_8 dX6_section_56 h_M (by rfl) ?_
          refine j_bipush hX dX6_section_59 (by decide) ?_
          refine j_iload_n hX dX6_section_61 rfl ?_
          refine j_imul hX dX6_section_62 ?_
          refine j_bipush hX dX6_section_63 (by decide) ?_
          refine j_isub hX dX6_section_65 ?_
          refine j_aload_n hX dX6_section_66 rfl ?_
          refine j_get hX fl_X6_35_8 dX6_section_67 h_M (by rfl) ?_
          refine j_iload_n hX dX6_section_70 rfl ?_
          refine j_ialdN hX _ rfl dX6_section_71 h_a8 (by omega) (by decide) ?_
          refine j_iadd hX dX6_section_72 ?_
          refine j_iload_n hX dX6_section_73 rfl ?_
          refine j_iastN hX (10 * t - 10 + (σ 8 t).toNat) (by omega) dX6_section_74 h_a9 (by omega) (by decide) ?_
          have hM1 := hM0.arr (k := 9) rfl (zup (σ 9) (10 * t - 10 + (σ 8 t).toNat) y)
          have hF1 := hF0.a (k := 9) rfl (gI G 170 (zup (σ 9) (10 * t - 10 + (σ 8 t).toNat) y))
          have h_M := hM1.1
          have h_a8 : _ = some (gI G 17 (σ 8)) := hM1.a8
          have h_a10 : _ = some (gJ G 170 (σ 10)) := hM1.a10
          refine j_aload_n hX dX6_section_75 rfl ?_
          refine j_get hX fl_X6_41_8 dX6_section_76 h_M (by rfl) ?_
          refine j_bipush hX dX6_section_79 (by decide) ?_
          refine j_iload_n hX dX6_section_81 rfl ?_
          refine j_imul hX dX6_section_82 ?_
          refine j_bipush hX dX6_section_83 (by decide) ?_
          refine j_isub hX dX6_section_85 ?_
          refine j_aload_n hX dX6_section_86 rfl ?_
          refine j_get hX fl_X6_35_8 dX6_section_87 h_M (by rfl) ?_
          refine j_iload_n hX dX6_section_90 rfl ?_
          refine j_ialdN hX _ rfl dX6_section_91 h_a8 (by omega) (by decide) ?_
          refine j_iadd hX dX6_section_92 ?_
          refine j_lload_n hX dX6_section_93 rfl ?_
          refine j_lastN hX (10 * t - 10 + (σ 8 t).toNat) (by omega) dX6_section_94 h_a10 (by omega) (by decide) ?_
          have hM2 := hM1.arr (k := 10) rfl (zup (σ 10) (10 * t - 10 + (σ 8 t).toNat) x)
          have hF2 := hF1.a (k := 10) rfl (gJ G 170 (zup (σ 10) (10 * t - 10 + (σ 8 t).toNat) x))
          have h_M := hM2.1
          have h_a8 : _ = some (gI G 17 (σ 8)) := hM2.a8
          refine j_aload_n hX dX6_section_95 rfl ?_
          refine j_get hX fl_X6_35_8 dX6_section_96 h_M (by rfl) ?_
          refine j_iload_n hX dX6_section_99 rfl ?_
          refine j_dup2 hX dX6_section_100 rfl rfl ?_
          refine j_ialdN hX _ rfl dX6_section_101 h_a8 (by omega) (by decide) ?_
          refine j_iconst hX dX6_section_102 ?_
          refine j_iadd hX dX6_section_103 ?_
          refine j_iastN hX _ rfl dX6_section_104 h_a8 (by omega) (by decide) ?_
          have hM3 := hM2.arr (k := 8) rfl (zup (σ 8) t (σ 8 t + 1))
          have hF3 := hF2.a (k := 8) rfl (gI G 17 (zup (σ 8) t (σ 8 t + 1)))
          have h_M := hM3.1
          have h_a8 : _ = some (gI G 17 (zup (σ 8) t (σ 8 t + 1))) := hM3.a8
          refine j_aload_n hX dX6_section_105 rfl ?_
          refine j_get hX fl_X6_35_8 dX6_section_106 h_M (by rfl) ?_
          refine j_iload_n hX dX6_section_109 rfl ?_
          refine j_ialdN hX _ rfl dX6_section_110 h_a8 (by omega) (by decide) ?_
          exact j_iret hX hR dX6_section_111 ⟨by rw [zup_eq]; unfold secR; rw [ht8]; (repeat' split) <;> first | rfl | (exfalso; omega), sp, tu, by rw [secS, ht8, if_pos ⟨by omega, by omega, by omega, by omega⟩]; exact hM3, hF3⟩
        · refine j_bipush hX dX6_section_52 (by decide) ?_
          exact j_iret hX hR dX6_section_54 ⟨by unfold secR; rw [ht8]; (repeat' split) <;> first | rfl | (exfalso; omega), sp, tu, by rw [secS, ht8, if_neg (by omega)]; exact hM0, hF0⟩
      · refine j_bipush hX dX6_section_38 (by decide) ?_
        exact j_iret hX hR dX6_section_40 ⟨by unfold secR; (repeat' split) <;> first | rfl | (exfalso; omega), sp, tu, by rw [secS, if_neg (by omega)]; exact hM0, hF0⟩
  · refine j_iconst hX dX6_section_13 ?_
    exact j_iret hX hR dX6_section_14 ⟨by unfold secR; (repeat' split) <;> first | rfl | (exfalso; omega), sp, tu, by rw [secS, if_neg (by omega)]; exact hM0, hF0⟩
set_option maxRecDepth 100000 in
set_option maxHeartbeats 4000000 in
theorem c6_interrupt {l : Launch} {G : Gt} {B : Nat} {h : hF} {b : Nat} {A9 : Nat → Nat} {σ : St} {n m : Nat} {sp tu th : Int} (hM : Mo G h b A9 σ n m sp tu th) (hO : OK n m σ) {x : Int} (hx9 : -9223372036854775808 ≤ x ∧ x < 9223372036854775808) {y : Int} (hy9 : -9223372036854775808 ≤ y ∧ y < 9223372036854775808) : Ct l G B yX6_interrupt cX6_interrupt 5 (some .int) 1 0 0 [.ref b, .long (lZ x), .long (lZ y)] h (fun v h' => v = .int (iZ (intR m x y)) ∧ ∃ sp2 tu2 : Int, Mo G h' b A9 (intS σ m x y) n (intN m x y) sp2 tu2 0 ∧ Fm h h' b A9) := by
  refine Ct.of (by decide) (Nat.le_of_ble_eq_true rfl) ?_
  intro p e s m9 below meth c A hX hR hin
  have hn16 := hO.1
  have hm8 := hO.2.1
  have h_M := hM.1
  refine j_aload_n hX dX6_interrupt_0 rfl ?_
  refine j_iconst hX dX6_interrupt_1 ?_
  refine j_putE hX fp_X6_63_8 dX6_interrupt_2 h_M rfl rfl (Nat.le_of_ble_eq_true rfl) (fs2 := (MF A9 n m sp tu 0)) rfl ?_
  have hM0 := hM.fld (n' := n) (m' := m) (sp' := sp) (tu' := tu) (th' := 0)
  have h_M := hM0.1
  have hF0 : Fm h _ b A9 := (Fm.rf h b A9).b (.inr (8, MF A9 n m sp tu 0))
  refine j_lload_n hX dX6_interrupt_5 rfl ?_
  refine j_lconst1 hX dX6_interrupt_6 ?_
  refine j_ldc2 hX k_X6_70 (z := 1000) (by decide) dX6_interrupt_7 ?_
  refine j_callS hX cs_X6_72 (c6_withinF (by omega) (by omega) (by omega)) dX6_interrupt_10 rfl (by exact ⟨Nat.le_of_ble_eq_true rfl, Nat.le_of_ble_eq_true rfl⟩) (by exact ⟨Nat.le_of_ble_eq_true rfl, Nat.le_of_ble_eq_true rfl⟩) (by exact Nat.le_of_ble_eq_true rfl) (fun v10 h10 hp10 => ?_) rfl
  obtain ⟨⟨y10, rfl, hy10⟩, rfl⟩ := hp10
  refine j_if_eq hX 27 dX6_interrupt_13 (by decide) (by omega) (fun c13 => ?_) (fun c13 => ?_)
  · refine j_bipush hX dX6_interrupt_27 (by decide) ?_
    exact j_iret hX hR dX6_interrupt_29 ⟨by unfold intR; (repeat' split) <;> first | rfl | (exfalso; omega), sp, tu, by rw [intS, if_neg (by omega), intN, if_neg (by omega)]; exact hM0, hF0⟩
  · refine j_lload_n hX dX6_interrupt_16 rfl ?_
    refine j_lconst1 hX dX6_interrupt_17 ?_
    refine j_ldc2 hX k_X6_76 (z := 20000) (by decide) dX6_interrupt_18 ?_
    refine j_callS hX cs_X6_72 (c6_withinF (by omega) (by omega) (by omega)) dX6_interrupt_21 rfl (by exact ⟨Nat.le_of_ble_eq_true rfl, Nat.le_of_ble_eq_true rfl⟩) (by exact ⟨Nat.le_of_ble_eq_true rfl, Nat.le_of_ble_eq_true rfl⟩) (by exact Nat.le_of_ble_eq_true rfl) (fun v21 h21 hp21 => ?_) rfl
    obtain ⟨⟨y21, rfl, hy21⟩, rfl⟩ := hp21
    refine j_if_ne hX 30 dX6_interrupt_24 (by decide) (by omega) (fun c24 => ?_) (fun c24 => ?_)
    · refine j_aload_n hX dX6_interrupt_30 rfl ?_
      refine j_get hX fl_X6_90_8 dX6_interrupt_31 h_M (by rfl) ?_
      refine j_bipush hX dX6_interrupt_34 (by decide) ?_
      refine j_icmp_ne hX 42 dX6_interrupt_36 (by decide) (by omega) (by omega) (fun c36 => ?_) (fun c36 => ?_)
      · refine j_aload_n hX dX6_interrupt_42 rfl ?_
        refine j_dup hX dX6_interrupt_43 rfl ?_
        refine j_get hX fl_X6_90_8 dX6_interrupt_44 h_M (by rfl) ?_
        refine j_iconst hX dX6_interrupt_47 ?_
        refine j_iadd hX dX6_interrupt_48 ?_
        refine j_putE hX fp_X6_90_8 dX6_interrupt_49 h_M rfl rfl (Nat.le_of_ble_eq_true rfl) (fs2 := (MF A9 n (m + 1) sp tu 0)) rfl ?_
        have hM1 := hM0.fld (n' := n) (m' := m + 1) (sp' := sp) (tu' := tu) (th' := 0)
        have hF1 := hF0.b (.inr (8, MF A9 n (m + 1) sp tu 0))
        have h_M := hM1.1
        have h_a12 := hM1.a12
        refine j_aload_n hX dX6_interrupt_52 rfl ?_
        refine j_get hX fl_X6_44_8 dX6_interrupt_53 h_M (by rfl) ?_
        refine j_aload_n hX dX6_interrupt_56 rfl ?_
        refine j_get hX fl_X6_90_8 dX6_interrupt_57 h_M (by rfl) ?_
        refine j_lload_n hX dX6_interrupt_60 rfl ?_
        refine j_lastN hX _ rfl dX6_interrupt_61 h_a12 (by omega) (by decide) ?_
        have hM2 := hM1.arr (k := 12) rfl (zup (σ 12) (m + 1) x)
        have hF2 := hF1.a (k := 12) rfl (gJ G 9 (zup (σ 12) (m + 1) x))
        have h_M := hM2.1
        have h_a13 : _ = some (gJ G 9 (σ 13)) := hM2.a13
        refine j_aload_n hX dX6_interrupt_62 rfl ?_
        refine j_get hX fl_X6_47_8 dX6_interrupt_63 h_M (by rfl) ?_
        refine j_aload_n hX dX6_interrupt_66 rfl ?_
        refine j_get hX fl_X6_90_8 dX6_interrupt_67 h_M (by rfl) ?_
        refine j_lload_n hX dX6_interrupt_70 rfl ?_
        refine j_lastN hX _ rfl dX6_interrupt_71 h_a13 (by omega) (by decide) ?_
        have hM3 := hM2.arr (k := 13) rfl (zup (σ 13) (m + 1) y)
        have hF3 := hF2.a (k := 13) rfl (gJ G 9 (zup (σ 13) (m + 1) y))
        have h_M := hM3.1
        refine j_aload_n hX dX6_interrupt_72 rfl ?_
        refine j_get hX fl_X6_90_8 dX6_interrupt_73 h_M (by rfl) ?_
        exact j_iret hX hR dX6_interrupt_76 ⟨by unfold intR; (repeat' split) <;> first | rfl | (exfalso; omega), sp, tu, by rw [intS, if_pos ⟨by omega, by omega, by omega⟩, intN, if_pos ⟨by omega, by omega, by omega⟩]; exact hM3, hF3⟩
      · refine j_bipush hX dX6_interrupt_39 (by decide) ?_
        exact j_iret hX hR dX6_interrupt_41 ⟨by unfold intR; (repeat' split) <;> first | rfl | (exfalso; omega), sp, tu, by rw [intS, if_neg (by omega), intN, if_neg (by omega)]; exact hM0, hF0⟩
    · refine j_bipush hX dX6_interrupt_27 (by decide) ?_
      exact j_iret hX hR dX6_interrupt_29 ⟨by unfold intR; (repeat' split) <;> first | rfl | (exfalso; omega), sp, tu, by rw [intS, if_neg (by omega), intN, if_neg (by omega)]; exact hM0, hF0⟩
set_option maxRecDepth 100000 in
set_option maxHeartbeats 4000000 in
theorem c6_task {l : Launch} {G : Gt} {B : Nat} {h : hF} {b : Nat} {A9 : Nat → Nat} {σ : St} {n m : Nat} {sp tu th : Int} (hM : Mo G h b A9 σ n m sp tu th) (hO : OK n m σ) {x : Int} (hx9 : -9223372036854775808 ≤ x ∧ x < 9223372036854775808) {y : Int} (hy9 : -9223372036854775808 ≤ y ∧ y < 9223372036854775808) {r : Int} (hr9 : -2147483648 ≤ r ∧ r < 2147483648) : Ct l G B yX6_task cX6_task 6 (some .int) 1 0 0 [.ref b, .long (lZ x), .long (lZ y), .int (iZ r)] h (fun v h' => v = .int (iZ (tskR n x y r)) ∧ ∃ sp2 tu2 : Int, Mo G h' b A9 (tskT σ n x y r) (tskN n x y r) m sp2 tu2 (tskH n x y r) ∧ Fm h h' b A9) := by
  refine Ct.of (by decide) (Nat.le_of_ble_eq_true rfl) ?_
  intro p e s m9 below meth c A hX hR hin
  have hn16 := hO.1
  have hm8 := hO.2.1
  have h_M := hM.1
  refine j_aload_n hX dX6_task_0 rfl ?_
  refine j_iconst hX dX6_task_1 ?_
  refine j_putE hX fp_X6_63_8 dX6_task_2 h_M rfl rfl (Nat.le_of_ble_eq_true rfl) (fs2 := (MF A9 n m sp tu 0)) rfl ?_
  have hM0 := hM.fld (n' := n) (m' := m) (sp' := sp) (tu' := tu) (th' := 0)
  have h_M := hM0.1
  have hF0 : Fm h _ b A9 := (Fm.rf h b A9).b (.inr (8, MF A9 n m sp tu 0))
  refine j_lload_n hX dX6_task_5 rfl ?_
  refine j_lconst1 hX dX6_task_6 ?_
  refine j_ldc2 hX k_X6_70 (z := 1000) (by decide) dX6_task_7 ?_
  refine j_callS hX cs_X6_72 (c6_withinF (by omega) (by omega) (by omega)) dX6_task_10 rfl (by exact ⟨Nat.le_of_ble_eq_true rfl, Nat.le_of_ble_eq_true rfl⟩) (by exact ⟨Nat.le_of_ble_eq_true rfl, Nat.le_of_ble_eq_true rfl⟩) (by exact Nat.le_of_ble_eq_true rfl) (fun v10 h10 hp10 => ?_) rfl
  obtain ⟨⟨y10, rfl, hy10⟩, rfl⟩ := hp10
  refine j_if_eq hX 40 dX6_task_13 (by decide) (by omega) (fun c13 => ?_) (fun c13 => ?_)
  · refine j_bipush hX dX6_task_40 (by decide) ?_
    exact j_iret hX hR dX6_task_42 ⟨by unfold tskR; (repeat' split) <;> first | rfl | (exfalso; omega), sp, tu, by rw [tskT, if_neg (by omega), tskN, if_neg (by omega), tskH, if_neg (by omega)]; exact hM0, hF0⟩
  · refine j_lload_n hX dX6_task_16 rfl ?_
    refine j_lconst0 hX dX6_task_17 ?_
    refine j_ldc2 hX k_X6_76 (z := 20000) (by decide) dX6_task_18 ?_
    refine j_callS hX cs_X6_72 (c6_withinF (by omega) (by omega) (by omega)) dX6_task_21 rfl (by exact ⟨Nat.le_of_ble_eq_true rfl, Nat.le_of_ble_eq_true rfl⟩) (by exact ⟨Nat.le_of_ble_eq_true rfl, Nat.le_of_ble_eq_true rfl⟩) (by exact Nat.le_of_ble_eq_true rfl) (fun v21 h21 hp21 => ?_) rfl
    obtain ⟨⟨y21, rfl, hy21⟩, rfl⟩ := hp21
    refine j_if_eq hX 40 dX6_task_24 (by decide) (by omega) (fun c24 => ?_) (fun c24 => ?_)
    · refine j_bipush hX dX6_task_40 (by decide) ?_
      exact j_iret hX hR dX6_task_42 ⟨by unfold tskR; (repeat' split) <;> first | rfl | (exfalso; omega), sp, tu, by rw [tskT, if_neg (by omega), tskN, if_neg (by omega), tskH, if_neg (by omega)]; exact hM0, hF0⟩
    · refine j_iload hX dX6_task_27 rfl ?_
      refine j_i2l hX dX6_task_29 (by omega) ?_
      refine j_lconst0 hX dX6_task_30 ?_
      refine j_ldc2 hX k_X6_78 (z := 255) (by decide) dX6_task_31 ?_
      refine j_callS hX cs_X6_72 (c6_withinF (by omega) (by omega) (by omega)) dX6_task_34 rfl (by exact ⟨Nat.le_of_ble_eq_true rfl, Nat.le_of_ble_eq_true rfl⟩) (by exact ⟨Nat.le_of_ble_eq_true rfl, Nat.le_of_ble_eq_true rfl⟩) (by exact Nat.le_of_ble_eq_true rfl) (fun v34 h34 hp34 => ?_) rfl
      obtain ⟨⟨y34, rfl, hy34⟩, rfl⟩ := hp34
      refine j_if_ne hX 43 dX6_task_37 (by decide) (by omega) (fun c37 => ?_) (fun c37 => ?_)
      · refine j_aload_n hX dX6_task_43 rfl ?_
        refine j_get hX fl_X6_67_8 dX6_task_44 h_M (by rfl) ?_
        refine j_bipush hX dX6_task_47 (by decide) ?_
        refine j_icmp_ne hX 55 dX6_task_49 (by decide) (by omega) (by omega) (fun c49 => ?_) (fun c49 => ?_)
        · refine j_lload_n hX dX6_task_55 rfl ?_
          refine j_lconst0 hX dX6_task_56 ?_
          refine j_lcmp_ne hX 68 dX6_task_57 dX6_task_58 (by decide) (by omega) (by omega) (fun c57 => ?_) (fun c57 => ?_)
          · refine j_aload_n hX dX6_task_68 rfl ?_
            refine j_dup hX dX6_task_69 rfl ?_
            refine j_get hX fl_X6_67_8 dX6_task_70 h_M (by rfl) ?_
            refine j_iconst hX dX6_task_73 ?_
            refine j_iadd hX dX6_task_74 ?_
            refine j_putE hX fp_X6_67_8 dX6_task_75 h_M rfl rfl (Nat.le_of_ble_eq_true rfl) (fs2 := (MF A9 (n + 1) m sp tu 0)) rfl ?_
            have hM1 := hM0.fld (n' := n + 1) (m' := m) (sp' := sp) (tu' := tu) (th' := 0)
            have hF1 := hF0.b (.inr (8, MF A9 (n + 1) m sp tu 0))
            have h_M := hM1.1
            have h_a0 := hM1.a0
            refine j_aload_n hX dX6_task_78 rfl ?_
            refine j_get hX fl_X6_7_8 dX6_task_79 h_M (by rfl) ?_
            refine j_aload_n hX dX6_task_82 rfl ?_
            refine j_get hX fl_X6_67_8 dX6_task_83 h_M (by rfl) ?_
            refine j_lload_n hX dX6_task_86 rfl ?_
            refine j_lastN hX _ rfl dX6_task_87 h_a0 (by omega) (by decide) ?_
            have hM2 := hM1.arr (k := 0) rfl (zup (σ 0) (n + 1) x)
            have hF2 := hF1.a (k := 0) rfl (gJ G 17 (zup (σ 0) (n + 1) x))
            have h_M := hM2.1
            have h_a1 : _ = some (gJ G 17 (σ 1)) := hM2.a1
            refine j_aload_n hX dX6_task_88 rfl ?_
            refine j_get hX fl_X6_13_8 dX6_task_89 h_M (by rfl) ?_
            refine j_aload_n hX dX6_task_92 rfl ?_
            refine j_get hX fl_X6_67_8 dX6_task_93 h_M (by rfl) ?_
            refine j_lload_n hX dX6_task_96 rfl ?_
            refine j_lastN hX _ rfl dX6_task_97 h_a1 (by omega) (by decide) ?_
            have hM3 := hM2.arr (k := 1) rfl (zup (σ 1) (n + 1) y)
            have hF3 := hF2.a (k := 1) rfl (gJ G 17 (zup (σ 1) (n + 1) y))
            have h_M := hM3.1
            have h_a2 : _ = some (gI G 17 (σ 2)) := hM3.a2
            refine j_aload_n hX dX6_task_98 rfl ?_
            refine j_get hX fl_X6_16_8 dX6_task_99 h_M (by rfl) ?_
            refine j_aload_n hX dX6_task_102 rfl ?_
            refine j_get hX fl_X6_67_8 dX6_task_103 h_M (by rfl) ?_
            refine j_iload hX dX6_task_106 rfl ?_
            refine j_iastN hX _ rfl dX6_task_108 h_a2 (by omega) (by decide) ?_
            have hM4 := hM3.arr (k := 2) rfl (zup (σ 2) (n + 1) r)
            have hF4 := hF3.a (k := 2) rfl (gI G 17 (zup (σ 2) (n + 1) r))
            have h_M := hM4.1
            have h_a3 : _ = some (gJ G 17 (σ 3)) := hM4.a3
            refine j_aload_n hX dX6_task_109 rfl ?_
            refine j_get hX fl_X6_20_8 dX6_task_110 h_M (by rfl) ?_
            refine j_aload_n hX dX6_task_113 rfl ?_
            refine j_get hX fl_X6_67_8 dX6_task_114 h_M (by rfl) ?_
            refine j_lconst0 hX dX6_task_117 ?_
            refine j_lastN hX _ rfl dX6_task_118 h_a3 (by omega) (by decide) ?_
            have hM5 := hM4.arr (k := 3) rfl (zup (σ 3) (n + 1) 0)
            have hF5 := hF4.a (k := 3) rfl (gJ G 17 (zup (σ 3) (n + 1) 0))
            have h_M := hM5.1
            have h_a4 : _ = some (gI G 17 (σ 4)) := hM5.a4
            refine j_aload_n hX dX6_task_119 rfl ?_
            refine j_get hX fl_X6_23_8 dX6_task_120 h_M (by rfl) ?_
            refine j_aload_n hX dX6_task_123 rfl ?_
            refine j_get hX fl_X6_67_8 dX6_task_124 h_M (by rfl) ?_
            refine j_iconst hX dX6_task_127 ?_
            refine j_iastN hX _ rfl dX6_task_128 h_a4 (by omega) (by decide) ?_
            have hM6 := hM5.arr (k := 4) rfl (zup (σ 4) (n + 1) 1)
            have hF6 := hF5.a (k := 4) rfl (gI G 17 (zup (σ 4) (n + 1) 1))
            have h_M := hM6.1
            have h_a5 : _ = some (gJ G 17 (σ 5)) := hM6.a5
            refine j_aload_n hX dX6_task_129 rfl ?_
            refine j_get hX fl_X6_26_8 dX6_task_130 h_M (by rfl) ?_
            refine j_aload_n hX dX6_task_133 rfl ?_
            refine j_get hX fl_X6_67_8 dX6_task_134 h_M (by rfl) ?_
            refine j_lconst1 hX dX6_task_137 ?_
            refine j_lastN hX _ rfl dX6_task_138 h_a5 (by omega) (by decide) ?_
            have hM7 := hM6.arr (k := 5) rfl (zup (σ 5) (n + 1) 1)
            have hF7 := hF6.a (k := 5) rfl (gJ G 17 (zup (σ 5) (n + 1) 1))
            have h_M := hM7.1
            have h_a6 : _ = some (gJ G 17 (σ 6)) := hM7.a6
            refine j_aload_n hX dX6_task_139 rfl ?_
            refine j_get hX fl_X6_29_8 dX6_task_140 h_M (by rfl) ?_
            refine j_aload_n hX dX6_task_143 rfl ?_
            refine j_get hX fl_X6_67_8 dX6_task_144 h_M (by rfl) ?_
            refine j_lconst0 hX dX6_task_147 ?_
            refine j_lastN hX _ rfl dX6_task_148 h_a6 (by omega) (by decide) ?_
            have hM8 := hM7.arr (k := 6) rfl (zup (σ 6) (n + 1) 0)
            have hF8 := hF7.a (k := 6) rfl (gJ G 17 (zup (σ 6) (n + 1) 0))
            have h_M := hM8.1
            have h_a7 : _ = some (gJ G 17 (σ 7)) := hM8.a7
            refine j_aload_n hX dX6_task_149 rfl ?_
            refine j_get hX fl_X6_32_8 dX6_task_150 h_M (by rfl) ?_
            refine j_aload_n hX dX6_task_153 rfl ?_
            refine j_get hX fl_X6_67_8 dX6_task_154 h_M (by rfl) ?_
            refine j_ldc2 hX k_X6_80 (z := -1) (by decide) dX6_task_157 ?_
            refine j_lastN hX _ rfl dX6_task_160 h_a7 (by omega) (by decide) ?_
            have hM9 := hM8.arr (k := 7) rfl (zup (σ 7) (n + 1) (-1))
            have hF9 := hF8.a (k := 7) rfl (gJ G 17 (zup (σ 7) (n + 1) (-1)))
            have h_M := hM9.1
            have h_a8 : _ = some (gI G 17 (σ 8)) := hM9.a8
            refine j_aload_n hX dX6_task_161 rfl ?_
            refine j_get hX fl_X6_35_8 dX6_task_162 h_M (by rfl) ?_
            refine j_aload_n hX dX6_task_165 rfl ?_
            refine j_get hX fl_X6_67_8 dX6_task_166 h_M (by rfl) ?_
            refine j_iconst hX dX6_task_169 ?_
            refine j_iastN hX _ rfl dX6_task_170 h_a8 (by omega) (by decide) ?_
            have hM10 := hM9.arr (k := 8) rfl (zup (σ 8) (n + 1) 0)
            have hF10 := hF9.a (k := 8) rfl (gI G 17 (zup (σ 8) (n + 1) 0))
            have h_M := hM10.1
            refine j_aload_n hX dX6_task_171 rfl ?_
            refine j_get hX fl_X6_67_8 dX6_task_172 h_M (by rfl) ?_
            exact j_iret hX hR dX6_task_175 ⟨by unfold tskR; (repeat' split) <;> first | rfl | (exfalso; omega), sp, tu, by rw [tskT, if_pos ⟨by omega, by omega, by omega, by omega⟩, tskN, if_pos ⟨by omega, by omega, by omega, by omega⟩, tskH, if_neg (by omega)]; exact hM10, hF10⟩
          · refine j_aload_n hX dX6_task_61 rfl ?_
            refine j_iconst hX dX6_task_62 ?_
            refine j_putE hX fp_X6_63_8 dX6_task_63 h_M rfl rfl (Nat.le_of_ble_eq_true rfl) (fs2 := (MF A9 n m sp tu 1)) rfl ?_
            have hM1 := hM0.fld (n' := n) (m' := m) (sp' := sp) (tu' := tu) (th' := 1)
            have hF1 := hF0.b (.inr (8, MF A9 n m sp tu 1))
            refine j_iconst hX dX6_task_66 ?_
            exact j_iret hX hR dX6_task_67 ⟨by unfold tskR; (repeat' split) <;> first | rfl | (exfalso; omega), sp, tu, by rw [tskT, if_neg (by omega), tskN, if_neg (by omega), tskH, if_pos ⟨by omega, by omega, by omega, by omega⟩]; exact hM1, hF1⟩
        · refine j_bipush hX dX6_task_52 (by decide) ?_
          exact j_iret hX hR dX6_task_54 ⟨by unfold tskR; (repeat' split) <;> first | rfl | (exfalso; omega), sp, tu, by rw [tskT, if_neg (by omega), tskN, if_neg (by omega), tskH, if_neg (by omega)]; exact hM0, hF0⟩
      · refine j_bipush hX dX6_task_40 (by decide) ?_
        exact j_iret hX hR dX6_task_42 ⟨by unfold tskR; (repeat' split) <;> first | rfl | (exfalso; omega), sp, tu, by rw [tskT, if_neg (by omega), tskN, if_neg (by omega), tskH, if_neg (by omega)]; exact hM0, hF0⟩
