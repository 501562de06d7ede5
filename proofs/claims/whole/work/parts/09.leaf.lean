/-! LEAVES: methods that read numbers, of the class and of the lists -/
set_option maxRecDepth 100000 in
set_option maxHeartbeats 4000000 in
theorem c_upwards {l : Launch} {G : Gt} {B : Nat} (h : hF) (d b : Int) (hd : 0 ≤ d ∧ d ≤ 1000000000000000) (hb : 1 ≤ b ∧ b ≤ 1000000000000) : Ct l G B yX5_upwards cX5_upwards 4 (some .long) 0 0 0 [.long (lZ d), .long (lZ b)] h (fun v h' => v = .long (lZ (upw d b)) ∧ h = h') := by
  refine Ct.of (by decide) (Nat.le_of_ble_eq_true rfl) ?_
  intro p e s m below meth c A hX hR hin
  refine j_lload_n hX dX5_upwards_0 rfl ?_
  refine j_lconst1 hX dX5_upwards_1 ?_
  refine j_lcmp_ge hX 10 dX5_upwards_2 dX5_upwards_3 (by decide) (by omega) (by omega) (fun c2 => ?_) (fun c2 => absurd c2 (by omega))
  refine j_lload_n hX dX5_upwards_10 rfl ?_
  refine j_lload_n hX dX5_upwards_11 rfl ?_
  refine j_ladd hX dX5_upwards_12 ?_
  refine j_lconst1 hX dX5_upwards_13 ?_
  refine j_lsub hX dX5_upwards_14 ?_
  refine j_lload_n hX dX5_upwards_15 rfl ?_
  refine j_ldiv hX dX5_upwards_16 (by omega) (by omega) ?_
  exact j_lret hX hR dX5_upwards_17 ⟨rfl, rfl⟩
set_option maxRecDepth 100000 in
set_option maxHeartbeats 4000000 in
theorem c_whole {l : Launch} {G : Gt} {B : Nat} (h : hF) (d b : Int) (hd : 0 ≤ d ∧ d ≤ 1000000000000000) (hb : 1 ≤ b ∧ b ≤ 1000000000000) : Ct l G B yX5_whole cX5_whole 4 (some .long) 0 0 0 [.long (lZ d), .long (lZ b)] h (fun v h' => v = .long (lZ (d / b)) ∧ h = h') := by
  refine Ct.of (by decide) (Nat.le_of_ble_eq_true rfl) ?_
  intro p e s m below meth c A hX hR hin
  refine j_lload_n hX dX5_whole_0 rfl ?_
  refine j_lconst1 hX dX5_whole_1 ?_
  refine j_lcmp_ge hX 10 dX5_whole_2 dX5_whole_3 (by decide) (by omega) (by omega) (fun c2 => ?_) (fun c2 => absurd c2 (by omega))
  refine j_lload_n hX dX5_whole_10 rfl ?_
  refine j_lload_n hX dX5_whole_11 rfl ?_
  refine j_ldiv hX dX5_whole_12 (by omega) (by omega) ?_
  exact j_lret hX hR dX5_whole_13 ⟨rfl, rfl⟩
/-- a Part or a Task at b, of these numbers -/
def PartAt (h : hF) (b : Nat) (own per spin jit inn many : Int) : Prop := ∃ (ci : Nat) (fs : List Value), (ci = 4 ∨ ci = 6) ∧ h b = some (.inr (ci, fs)) ∧ fs[1]? = some (.long (lZ per)) ∧ fs[2]? = some (.long (lZ own)) ∧ fs[3]? = some (.long (lZ spin)) ∧ fs[4]? = some (.long (lZ jit)) ∧ fs[5]? = some (.long (lZ inn)) ∧ fs[6]? = some (.int (iZ many))
def PartOK (own per spin jit inn many : Int) : Prop := (1 ≤ own ∧ own ≤ 1000) ∧ (1 ≤ per ∧ per ≤ 20000) ∧ (0 ≤ spin ∧ spin ≤ 1000) ∧ (0 ≤ jit ∧ jit ≤ 20000) ∧ (1 ≤ inn ∧ inn ≤ 20000) ∧ (1 ≤ many ∧ many ≤ 20)
set_option maxRecDepth 100000 in
set_option maxHeartbeats 4000000 in
theorem c_cost {l : Launch} {G : Gt} {B : Nat} {h : hF} {b : Nat} {own per spin jit inn many : Int} (hp : PartAt h b own per spin jit inn many) : Ct l G B yX2_cost cX2_cost 1 (some .long) 0 0 0 [.ref b] h (fun v h' => v = .long (lZ (own + spin)) ∧ h = h') := by
  refine Ct.of (by decide) (Nat.le_of_ble_eq_true rfl) ?_
  intro p e s m below meth c A hX hR hin
  obtain ⟨ci, fs, hci, hb, f1, f2, f3, f4, f5, f6⟩ := hp
  have g22 : FL RX2 22 ci 2 := by rcases hci with rfl | rfl; exact fl_X2_22_4; exact fl_X2_22_6
  have g28 : FL RX2 28 ci 3 := by rcases hci with rfl | rfl; exact fl_X2_28_4; exact fl_X2_28_6
  refine j_aload_n hX dX2_cost_0 rfl ?_
  refine j_get hX g22 dX2_cost_1 hb f2 ?_
  refine j_aload_n hX dX2_cost_4 rfl ?_
  refine j_get hX g28 dX2_cost_5 hb f3 ?_
  refine j_ladd hX dX2_cost_8 ?_
  exact j_lret hX hR dX2_cost_9 ⟨rfl, rfl⟩
set_option maxRecDepth 100000 in
set_option maxHeartbeats 4000000 in
theorem c_acts {l : Launch} {G : Gt} {B : Nat} {h : hF} {b : Nat} {own per spin jit inn many : Int} (hp : PartAt h b own per spin jit inn many) (ho : PartOK own per spin jit inn many) {w : Int} (hw : 0 ≤ w ∧ w ≤ 1000000) : Ct l G B yX2_activationsIn cX2_activationsIn 3 (some .long) 1 0 0 [.ref b, .long (lZ w)] h (fun v h' => v = .long (lZ (acts inn many jit per w)) ∧ h = h') := by
  refine Ct.of (by decide) (Nat.le_of_ble_eq_true rfl) ?_
  intro p e s m below meth c A hX hR hin
  obtain ⟨ci, fs, hci, hb, f1, f2, f3, f4, f5, f6⟩ := hp
  have g9 : FL RX2 9 ci 5 := by rcases hci with rfl | rfl; exact fl_X2_9_4; exact fl_X2_9_6
  have g15 : FL RX2 15 ci 6 := by rcases hci with rfl | rfl; exact fl_X2_15_4; exact fl_X2_15_6
  have g35 : FL RX2 35 ci 4 := by rcases hci with rfl | rfl; exact fl_X2_35_4; exact fl_X2_35_6
  have g25 : FL RX2 25 ci 1 := by rcases hci with rfl | rfl; exact fl_X2_25_4; exact fl_X2_25_6
  obtain ⟨o1, o2, o3, o4, o5, o6⟩ := ho
  refine j_lload_n hX dX2_activationsIn_0 rfl ?_
  refine j_aload_n hX dX2_activationsIn_1 rfl ?_
  refine j_get hX g9 dX2_activationsIn_2 hb f5 ?_
  refine j_callSN hX cn_X2_31 q_294 (c_upwards h w inn (by omega) (by omega)) dX2_activationsIn_5 rfl (by exact ⟨Nat.le_of_ble_eq_true rfl, Nat.le_of_ble_eq_true rfl⟩) (by exact ⟨Nat.le_of_ble_eq_true rfl, Nat.le_of_ble_eq_true rfl⟩) (by exact Nat.le_of_ble_eq_true rfl) (fun v5 h5 hp5 => ?_) rfl
  obtain ⟨rfl, rfl⟩ := hp5
  refine j_aload_n hX dX2_activationsIn_8 rfl ?_
  refine j_get hX g15 dX2_activationsIn_9 hb f6 ?_
  refine j_i2l hX dX2_activationsIn_12 (by omega) ?_
  refine j_lload_n hX dX2_activationsIn_13 rfl ?_
  refine j_aload_n hX dX2_activationsIn_14 rfl ?_
  refine j_get hX g35 dX2_activationsIn_15 hb f4 ?_
  refine j_ladd hX dX2_activationsIn_18 ?_
  refine j_aload_n hX dX2_activationsIn_19 rfl ?_
  refine j_get hX g25 dX2_activationsIn_20 hb f1 ?_
  refine j_callSN hX cn_X2_31 q_294 (c_upwards h (w + jit) per (by omega) (by omega)) dX2_activationsIn_23 rfl (by exact ⟨Nat.le_of_ble_eq_true rfl, Nat.le_of_ble_eq_true rfl⟩) (by exact ⟨Nat.le_of_ble_eq_true rfl, Nat.le_of_ble_eq_true rfl⟩) (by exact Nat.le_of_ble_eq_true rfl) (fun v23 h23 hp23 => ?_) rfl
  obtain ⟨rfl, rfl⟩ := hp23
  refine j_lmul hX dX2_activationsIn_26 ?_
  have b1 := upw_b hw o5.1
  have b2 := upw_b (d := w + jit) (D := 1020000) (b := per) (by omega) o2.1
  have b3 := mulb (a := many) (A := 20) (by omega) b2
  refine j_lmin hX mx_X2_38.1 mx_X2_38.2.1 mx_X2_38.2.2.1 mx_X2_38.2.2.2 dX2_activationsIn_27 (by omega) (by omega) (by exact ⟨Nat.le_of_ble_eq_true rfl, Nat.le_of_ble_eq_true rfl⟩) (by exact ⟨Nat.le_of_ble_eq_true rfl, Nat.le_of_ble_eq_true rfl⟩) ?_
  exact j_lret hX hR dX2_activationsIn_30 ⟨rfl, rfl⟩
set_option maxRecDepth 100000 in
set_option maxHeartbeats 4000000 in
theorem c_later {l : Launch} {G : Gt} {B : Nat} {h : hF} {b : Nat} {own per spin jit inn many : Int} (hp : PartAt h b own per spin jit inn many) (ho : PartOK own per spin jit inn many) {q : Int} (hq : 0 ≤ q ∧ q ≤ 500) : Ct l G B yX2_laterOf cX2_laterOf 4 (some .long) 1 0 0 [.ref b, .int (iZ q)] h (fun v h' => v = .long (lZ (late inn many jit per q)) ∧ h = h') := by
  refine Ct.of (by decide) (Nat.le_of_ble_eq_true rfl) ?_
  intro p e s m below meth c A hX hR hin
  obtain ⟨ci, fs, hci, hb, f1, f2, f3, f4, f5, f6⟩ := hp
  have g9 : FL RX2 9 ci 5 := by rcases hci with rfl | rfl; exact fl_X2_9_4; exact fl_X2_9_6
  have g15 : FL RX2 15 ci 6 := by rcases hci with rfl | rfl; exact fl_X2_15_4; exact fl_X2_15_6
  have g35 : FL RX2 35 ci 4 := by rcases hci with rfl | rfl; exact fl_X2_35_4; exact fl_X2_35_6
  have g25 : FL RX2 25 ci 1 := by rcases hci with rfl | rfl; exact fl_X2_25_4; exact fl_X2_25_6
  obtain ⟨o1, o2, o3, o4, o5, o6⟩ := ho
  have b1 := divb hq (show 0 < many by omega)
  have b2 := mulb b1 (show 0 ≤ per ∧ per ≤ 20000 by omega)
  have b3 := mulb hq (show 0 ≤ inn ∧ inn ≤ 20000 by omega)
  refine j_iload_n hX dX2_laterOf_0 rfl ?_
  refine j_i2l hX dX2_laterOf_1 (by omega) ?_
  refine j_aload_n hX dX2_laterOf_2 rfl ?_
  refine j_get hX g15 dX2_laterOf_3 hb f6 ?_
  refine j_i2l hX dX2_laterOf_6 (by omega) ?_
  refine j_callSN hX cn_X2_43 q_254 (c_whole h q many (by omega) (by omega)) dX2_laterOf_7 rfl (by exact ⟨Nat.le_of_ble_eq_true rfl, Nat.le_of_ble_eq_true rfl⟩) (by exact ⟨Nat.le_of_ble_eq_true rfl, Nat.le_of_ble_eq_true rfl⟩) (by exact Nat.le_of_ble_eq_true rfl) (fun v7 h7 hp7 => ?_) rfl
  obtain ⟨rfl, rfl⟩ := hp7
  refine j_aload_n hX dX2_laterOf_10 rfl ?_
  refine j_get hX g25 dX2_laterOf_11 hb f1 ?_
  refine j_lmul hX dX2_laterOf_14 ?_
  refine j_aload_n hX dX2_laterOf_15 rfl ?_
  refine j_get hX g35 dX2_laterOf_16 hb f4 ?_
  refine j_lsub hX dX2_laterOf_19 ?_
  refine j_lstore_n hX dX2_laterOf_20 (by decide) ?_
  refine j_iload_n hX dX2_laterOf_21 rfl ?_
  refine j_i2l hX dX2_laterOf_22 (by omega) ?_
  refine j_aload_n hX dX2_laterOf_23 rfl ?_
  refine j_get hX g9 dX2_laterOf_24 hb f5 ?_
  refine j_lmul hX dX2_laterOf_27 ?_
  refine j_lload_n hX dX2_laterOf_28 rfl ?_
  refine j_lmax hX mx_X2_46.1 mx_X2_46.2.1 mx_X2_46.2.2.1 mx_X2_46.2.2.2 dX2_laterOf_29 (by omega) (by omega) (by exact ⟨Nat.le_of_ble_eq_true rfl, Nat.le_of_ble_eq_true rfl⟩) (by exact ⟨Nat.le_of_ble_eq_true rfl, Nat.le_of_ble_eq_true rfl⟩) ?_
  refine j_lconst0 hX dX2_laterOf_32 ?_
  refine j_lmax hX mx_X2_46.1 mx_X2_46.2.1 mx_X2_46.2.2.1 mx_X2_46.2.2.2 dX2_laterOf_33 (by split <;> omega) (by omega) (by exact ⟨Nat.le_of_ble_eq_true rfl, Nat.le_of_ble_eq_true rfl⟩) (by exact ⟨Nat.le_of_ble_eq_true rfl, Nat.le_of_ble_eq_true rfl⟩) ?_
  exact j_lret hX hR dX2_laterOf_36 ⟨rfl, rfl⟩
/-- millionths of time that a part takes -/
def loaI (own spin many per : Int) : Int := 1000000 * many * (own + spin) / per
def shaI (own spin many per inn : Int) : Int := if loaI own spin many per < 1000000 * (own + spin) / inn then loaI own spin many per else 1000000 * (own + spin) / inn
set_option maxRecDepth 100000 in
set_option maxHeartbeats 4000000 in
theorem c_load4 {l : Launch} {G : Gt} {B : Nat} {h : hF} {b : Nat} {own per spin jit inn many : Int} (ho : PartOK own per spin jit inn many) (fs : List Value) (hb : h b = some (.inr (4, fs))) (f1 : fs[1]? = some (.long (lZ per))) (f2 : fs[2]? = some (.long (lZ own))) (f3 : fs[3]? = some (.long (lZ spin))) (f4 : fs[4]? = some (.long (lZ jit))) (f5 : fs[5]? = some (.long (lZ inn))) (f6 : fs[6]? = some (.int (iZ many))) : Ct l G B yX2_load cX2_load 1 (some .long) 1 0 0 [.ref b] h (fun v h' => v = .long (lZ (loaI own spin many per)) ∧ h = h') := by
  refine Ct.of (by decide) (Nat.le_of_ble_eq_true rfl) ?_
  intro p e s m below meth c A hX hR hin
  obtain ⟨o1, o2, o3, o4, o5, o6⟩ := ho
  have b1 := mulb (a := 1000000) (A := 1000000) (by omega) (show 0 ≤ many ∧ many ≤ 20 by omega)
  have b2 := mulb b1 (show 0 ≤ own + spin ∧ own + spin ≤ 2000 by omega)
  refine j_ldc2 hX k_X2_49 (z := 1000000) (by decide) dX2_load_0 ?_
  refine j_aload_n hX dX2_load_3 rfl ?_
  refine j_get hX fl_X2_15_4 dX2_load_4 hb f6 ?_
  refine j_i2l hX dX2_load_7 (by omega) ?_
  refine j_lmul hX dX2_load_8 ?_
  refine j_aload_n hX dX2_load_9 rfl ?_
  refine j_callV hX cv_X2_51 (c_cost ⟨4, fs, by decide, hb, f1, f2, f3, f4, f5, f6⟩) dX2_load_10 hb rfl rfl (by exact ⟨Nat.le_of_ble_eq_true rfl, Nat.le_of_ble_eq_true rfl⟩) (by exact ⟨Nat.le_of_ble_eq_true rfl, Nat.le_of_ble_eq_true rfl⟩) (by exact Nat.le_of_ble_eq_true rfl) (fun v10 h10 hp10 => ?_) rfl
  obtain ⟨rfl, rfl⟩ := hp10
  refine j_lmul hX dX2_load_13 ?_
  refine j_aload_n hX dX2_load_14 rfl ?_
  refine j_get hX fl_X2_25_4 dX2_load_15 hb f1 ?_
  refine j_callSN hX cn_X2_43 q_254 (c_whole h (1000000 * many * (own + spin)) per (by omega) (by omega)) dX2_load_18 rfl (by exact ⟨Nat.le_of_ble_eq_true rfl, Nat.le_of_ble_eq_true rfl⟩) (by exact ⟨Nat.le_of_ble_eq_true rfl, Nat.le_of_ble_eq_true rfl⟩) (by exact Nat.le_of_ble_eq_true rfl) (fun v18 h18 hp18 => ?_) rfl
  obtain ⟨rfl, rfl⟩ := hp18
  exact j_lret hX hR dX2_load_21 ⟨rfl, rfl⟩
set_option maxRecDepth 100000 in
set_option maxHeartbeats 4000000 in
theorem c_share4 {l : Launch} {G : Gt} {B : Nat} {h : hF} {b : Nat} {own per spin jit inn many : Int} (ho : PartOK own per spin jit inn many) (fs : List Value) (hb : h b = some (.inr (4, fs))) (f1 : fs[1]? = some (.long (lZ per))) (f2 : fs[2]? = some (.long (lZ own))) (f3 : fs[3]? = some (.long (lZ spin))) (f4 : fs[4]? = some (.long (lZ jit))) (f5 : fs[5]? = some (.long (lZ inn))) (f6 : fs[6]? = some (.int (iZ many))) : Ct l G B yX2_leastShare cX2_leastShare 1 (some .long) 2 0 0 [.ref b] h (fun v h' => v = .long (lZ (shaI own spin many per inn)) ∧ h = h') := by
  refine Ct.of (by decide) (Nat.le_of_ble_eq_true rfl) ?_
  intro p e s m below meth c A hX hR hin
  have ho9 := ho
  obtain ⟨o1, o2, o3, o4, o5, o6⟩ := ho
  have b1 := mulb (a := 1000000) (A := 1000000) (by omega) (show 0 ≤ own + spin ∧ own + spin ≤ 2000 by omega)
  have b2 := divb b1 (show 0 < inn by omega)
  have b3 := mulb (a := 1000000) (A := 1000000) (by omega) (show 0 ≤ many ∧ many ≤ 20 by omega)
  have b4 := mulb b3 (show 0 ≤ own + spin ∧ own + spin ≤ 2000 by omega)
  have b5 : 0 ≤ loaI own spin many per ∧ loaI own spin many per ≤ 1000000 * 20 * 2000 := divb b4 (show 0 < per by omega)
  refine j_ldc2 hX k_X2_49 (z := 1000000) (by decide) dX2_leastShare_0 ?_
  refine j_aload_n hX dX2_leastShare_3 rfl ?_
  refine j_callV hX cv_X2_51 (c_cost ⟨4, fs, by decide, hb, f1, f2, f3, f4, f5, f6⟩) dX2_leastShare_4 hb rfl rfl (by exact ⟨Nat.le_of_ble_eq_true rfl, Nat.le_of_ble_eq_true rfl⟩) (by exact ⟨Nat.le_of_ble_eq_true rfl, Nat.le_of_ble_eq_true rfl⟩) (by exact Nat.le_of_ble_eq_true rfl) (fun v4 h4 hp4 => ?_) rfl
  obtain ⟨rfl, rfl⟩ := hp4
  refine j_lmul hX dX2_leastShare_7 ?_
  refine j_aload_n hX dX2_leastShare_8 rfl ?_
  refine j_get hX fl_X2_9_4 dX2_leastShare_9 hb f5 ?_
  refine j_callSN hX cn_X2_43 q_254 (c_whole h (1000000 * (own + spin)) inn (by omega) (by omega)) dX2_leastShare_12 rfl (by exact ⟨Nat.le_of_ble_eq_true rfl, Nat.le_of_ble_eq_true rfl⟩) (by exact ⟨Nat.le_of_ble_eq_true rfl, Nat.le_of_ble_eq_true rfl⟩) (by exact Nat.le_of_ble_eq_true rfl) (fun v12 h12 hp12 => ?_) rfl
  obtain ⟨rfl, rfl⟩ := hp12
  refine j_aload_n hX dX2_leastShare_15 rfl ?_
  refine j_callV hX cv_X2_55 (c_load4 ho9 fs hb f1 f2 f3 f4 f5 f6) dX2_leastShare_16 hb rfl rfl (by exact ⟨Nat.le_of_ble_eq_true rfl, Nat.le_of_ble_eq_true rfl⟩) (by exact ⟨Nat.le_of_ble_eq_true rfl, Nat.le_of_ble_eq_true rfl⟩) (by exact Nat.le_of_ble_eq_true rfl) (fun v16 h16 hp16 => ?_) rfl
  obtain ⟨rfl, rfl⟩ := hp16
  refine j_lmin hX mx_X2_38.1 mx_X2_38.2.1 mx_X2_38.2.2.1 mx_X2_38.2.2.2 dX2_leastShare_19 (by omega) (by omega) (by exact ⟨Nat.le_of_ble_eq_true rfl, Nat.le_of_ble_eq_true rfl⟩) (by exact ⟨Nat.le_of_ble_eq_true rfl, Nat.le_of_ble_eq_true rfl⟩) ?_
  exact j_lret hX hR dX2_leastShare_22 ⟨rfl, rfl⟩
set_option maxRecDepth 100000 in
set_option maxHeartbeats 4000000 in
theorem c_load6 {l : Launch} {G : Gt} {B : Nat} {h : hF} {b : Nat} {own per spin jit inn many : Int} (ho : PartOK own per spin jit inn many) (fs : List Value) (hb : h b = some (.inr (6, fs))) (f1 : fs[1]? = some (.long (lZ per))) (f2 : fs[2]? = some (.long (lZ own))) (f3 : fs[3]? = some (.long (lZ spin))) (f4 : fs[4]? = some (.long (lZ jit))) (f5 : fs[5]? = some (.long (lZ inn))) (f6 : fs[6]? = some (.int (iZ many))) : Ct l G B yX2_load cX2_load 1 (some .long) 1 0 0 [.ref b] h (fun v h' => v = .long (lZ (loaI own spin many per)) ∧ h = h') := by
  refine Ct.of (by decide) (Nat.le_of_ble_eq_true rfl) ?_
  intro p e s m below meth c A hX hR hin
  obtain ⟨o1, o2, o3, o4, o5, o6⟩ := ho
  have b1 := mulb (a := 1000000) (A := 1000000) (by omega) (show 0 ≤ many ∧ many ≤ 20 by omega)
  have b2 := mulb b1 (show 0 ≤ own + spin ∧ own + spin ≤ 2000 by omega)
  refine j_ldc2 hX k_X2_49 (z := 1000000) (by decide) dX2_load_0 ?_
  refine j_aload_n hX dX2_load_3 rfl ?_
  refine j_get hX fl_X2_15_6 dX2_load_4 hb f6 ?_
  refine j_i2l hX dX2_load_7 (by omega) ?_
  refine j_lmul hX dX2_load_8 ?_
  refine j_aload_n hX dX2_load_9 rfl ?_
  refine j_callU hX cu_X2_51_6 (c_cost ⟨6, fs, by decide, hb, f1, f2, f3, f4, f5, f6⟩) dX2_load_10 hb rfl rfl (by exact ⟨Nat.le_of_ble_eq_true rfl, Nat.le_of_ble_eq_true rfl⟩) (by exact ⟨Nat.le_of_ble_eq_true rfl, Nat.le_of_ble_eq_true rfl⟩) (by exact Nat.le_of_ble_eq_true rfl) (fun v10 h10 hp10 => ?_) rfl
  obtain ⟨rfl, rfl⟩ := hp10
  refine j_lmul hX dX2_load_13 ?_
  refine j_aload_n hX dX2_load_14 rfl ?_
  refine j_get hX fl_X2_25_6 dX2_load_15 hb f1 ?_
  refine j_callSN hX cn_X2_43 q_254 (c_whole h (1000000 * many * (own + spin)) per (by omega) (by omega)) dX2_load_18 rfl (by exact ⟨Nat.le_of_ble_eq_true rfl, Nat.le_of_ble_eq_true rfl⟩) (by exact ⟨Nat.le_of_ble_eq_true rfl, Nat.le_of_ble_eq_true rfl⟩) (by exact Nat.le_of_ble_eq_true rfl) (fun v18 h18 hp18 => ?_) rfl
  obtain ⟨rfl, rfl⟩ := hp18
  exact j_lret hX hR dX2_load_21 ⟨rfl, rfl⟩
set_option maxRecDepth 100000 in
set_option maxHeartbeats 4000000 in
theorem c_share6 {l : Launch} {G : Gt} {B : Nat} {h : hF} {b : Nat} {own per spin jit inn many : Int} (ho : PartOK own per spin jit inn many) (fs : List Value) (hb : h b = some (.inr (6, fs))) (f1 : fs[1]? = some (.long (lZ per))) (f2 : fs[2]? = some (.long (lZ own))) (f3 : fs[3]? = some (.long (lZ spin))) (f4 : fs[4]? = some (.long (lZ jit))) (f5 : fs[5]? = some (.long (lZ inn))) (f6 : fs[6]? = some (.int (iZ many))) : Ct l G B yX2_leastShare cX2_leastShare 1 (some .long) 2 0 0 [.ref b] h (fun v h' => v = .long (lZ (shaI own spin many per inn)) ∧ h = h') := by
  refine Ct.of (by decide) (Nat.le_of_ble_eq_true rfl) ?_
  intro p e s m below meth c A hX hR hin
  have ho9 := ho
  obtain ⟨o1, o2, o3, o4, o5, o6⟩ := ho
  have b1 := mulb (a := 1000000) (A := 1000000) (by omega) (show 0 ≤ own + spin ∧ own + spin ≤ 2000 by omega)
  have b2 := divb b1 (show 0 < inn by omega)
  have b3 := mulb (a := 1000000) (A := 1000000) (by omega) (show 0 ≤ many ∧ many ≤ 20 by omega)
  have b4 := mulb b3 (show 0 ≤ own + spin ∧ own + spin ≤ 2000 by omega)
  have b5 : 0 ≤ loaI own spin many per ∧ loaI own spin many per ≤ 1000000 * 20 * 2000 := divb b4 (show 0 < per by omega)
  refine j_ldc2 hX k_X2_49 (z := 1000000) (by decide) dX2_leastShare_0 ?_
  refine j_aload_n hX dX2_leastShare_3 rfl ?_
  refine j_callU hX cu_X2_51_6 (c_cost ⟨6, fs, by decide, hb, f1, f2, f3, f4, f5, f6⟩) dX2_leastShare_4 hb rfl rfl (by exact ⟨Nat.le_of_ble_eq_true rfl, Nat.le_of_ble_eq_true rfl⟩) (by exact ⟨Nat.le_of_ble_eq_true rfl, Nat.le_of_ble_eq_true rfl⟩) (by exact Nat.le_of_ble_eq_true rfl) (fun v4 h4 hp4 => ?_) rfl
  obtain ⟨rfl, rfl⟩ := hp4
  refine j_lmul hX dX2_leastShare_7 ?_
  refine j_aload_n hX dX2_leastShare_8 rfl ?_
  refine j_get hX fl_X2_9_6 dX2_leastShare_9 hb f5 ?_
  refine j_callSN hX cn_X2_43 q_254 (c_whole h (1000000 * (own + spin)) inn (by omega) (by omega)) dX2_leastShare_12 rfl (by exact ⟨Nat.le_of_ble_eq_true rfl, Nat.le_of_ble_eq_true rfl⟩) (by exact ⟨Nat.le_of_ble_eq_true rfl, Nat.le_of_ble_eq_true rfl⟩) (by exact Nat.le_of_ble_eq_true rfl) (fun v12 h12 hp12 => ?_) rfl
  obtain ⟨rfl, rfl⟩ := hp12
  refine j_aload_n hX dX2_leastShare_15 rfl ?_
  refine j_callU hX cu_X2_55_6 (c_load6 ho9 fs hb f1 f2 f3 f4 f5 f6) dX2_leastShare_16 hb rfl rfl (by exact ⟨Nat.le_of_ble_eq_true rfl, Nat.le_of_ble_eq_true rfl⟩) (by exact ⟨Nat.le_of_ble_eq_true rfl, Nat.le_of_ble_eq_true rfl⟩) (by exact Nat.le_of_ble_eq_true rfl) (fun v16 h16 hp16 => ?_) rfl
  obtain ⟨rfl, rfl⟩ := hp16
  refine j_lmin hX mx_X2_38.1 mx_X2_38.2.1 mx_X2_38.2.2.1 mx_X2_38.2.2.2 dX2_leastShare_19 (by omega) (by omega) (by exact ⟨Nat.le_of_ble_eq_true rfl, Nat.le_of_ble_eq_true rfl⟩) (by exact ⟨Nat.le_of_ble_eq_true rfl, Nat.le_of_ble_eq_true rfl⟩) ?_
  exact j_lret hX hR dX2_leastShare_22 ⟨rfl, rfl⟩
