/-! THE CLASS: what is set; longer -/
theorem TF_0 (AD : Nat → Nat) (σ : St) (t : Nat) (x : Int) : (TF AD σ t).set 2 (.long (lZ x)) = TF AD (st1 σ 0 t x) t := by
  have e : st1 σ 0 t x 0 t = x := by rw [st1_at, if_pos ⟨rfl, rfl⟩]
  have e2 : TF AD (st1 σ 0 t x) t = (TF AD σ t).set 2 (.long (lZ (st1 σ 0 t x 0 t))) := rfl
  rw [e2, e]
theorem TF_3 (AD : Nat → Nat) (σ : St) (t : Nat) (x : Int) : (TF AD σ t).set 4 (.long (lZ x)) = TF AD (st1 σ 3 t x) t := by
  have e : st1 σ 3 t x 3 t = x := by rw [st1_at, if_pos ⟨rfl, rfl⟩]
  have e2 : TF AD (st1 σ 3 t x) t = (TF AD σ t).set 4 (.long (lZ (st1 σ 3 t x 3 t))) := rfl
  rw [e2, e]
theorem TF_4 (AD : Nat → Nat) (σ : St) (t : Nat) (x : Int) : (TF AD σ t).set 6 (.int (iZ x)) = TF AD (st1 σ 4 t x) t := by
  have e : st1 σ 4 t x 4 t = x := by rw [st1_at, if_pos ⟨rfl, rfl⟩]
  have e2 : TF AD (st1 σ 4 t x) t = (TF AD σ t).set 6 (.int (iZ (st1 σ 4 t x 4 t))) := rfl
  rw [e2, e]
theorem TF_5 (AD : Nat → Nat) (σ : St) (t : Nat) (x : Int) : (TF AD σ t).set 5 (.long (lZ x)) = TF AD (st1 σ 5 t x) t := by
  have e : st1 σ 5 t x 5 t = x := by rw [st1_at, if_pos ⟨rfl, rfl⟩]
  have e2 : TF AD (st1 σ 5 t x) t = (TF AD σ t).set 5 (.long (lZ (st1 σ 5 t x 5 t))) := rfl
  rw [e2, e]
theorem TF_6 (AD : Nat → Nat) (σ : St) (t : Nat) (x : Int) : (TF AD σ t).set 3 (.long (lZ x)) = TF AD (st1 σ 6 t x) t := by
  have e : st1 σ 6 t x 6 t = x := by rw [st1_at, if_pos ⟨rfl, rfl⟩]
  have e2 : TF AD (st1 σ 6 t x) t = (TF AD σ t).set 3 (.long (lZ (st1 σ 6 t x 6 t))) := rfl
  rw [e2, e]
theorem TF_7 (AD : Nat → Nat) (σ : St) (t : Nat) (x : Int) : (TF AD σ t).set 12 (.long (lZ x)) = TF AD (st1 σ 7 t x) t := by
  have e : st1 σ 7 t x 7 t = x := by rw [st1_at, if_pos ⟨rfl, rfl⟩]
  have e2 : TF AD (st1 σ 7 t x) t = (TF AD σ t).set 12 (.long (lZ (st1 σ 7 t x 7 t))) := rfl
  rw [e2, e]
theorem st1_ne (σ : St) (k t : Nat) (x : Int) {j : Nat} (h : j ≠ k) : st1 σ k t x j = σ j := sup_ne h
theorem st1_o (σ : St) (k t : Nat) (x : Int) {j o : Nat} (h : o ≠ t) : st1 σ k t x j o = σ j o := by rw [st1_at, if_neg (fun z => h z.2)]
theorem Cr.tskf {G : Gt} {h : hF} {AD : Nat → Nat} {σ : St} {n m : Nat} (hC : Cr G h AD σ n m) (hn16 : n ≤ 16) {t : Nat} (ht : 1 ≤ t ∧ t ≤ n) {σ' : St} (e2 : σ' 2 = σ 2) (e8 : σ' 8 = σ 8) (e9 : σ' 9 = σ 9) (e10 : σ' 10 = σ 10) (e12 : σ' 12 = σ 12) (e13 : σ' 13 = σ 13) (eo : ∀ k o : Nat, o ≠ t → σ' k o = σ k o) : Cr G (hup h (AD (20 + 4 * t)) (.inr (6, TF AD σ' t))) AD σ' n m := by
  have hlk : Lv n m (20 + 4 * t) := by unfold Lv; omega
  have ne : ∀ j : Nat, Lv n m j → j ≠ 20 + 4 * t → hup h (AD (20 + 4 * t)) (.inr (6, TF AD σ' t)) (AD j) = h (AD j) := fun j hj e => hup_ne (hC.inj hj hlk e)
  obtain ⟨c1, ⟨c2, c3⟩, c4, c5, c6, c7, c8, c9, c10⟩ := hC
  refine ⟨c1, ⟨?_, ?_⟩, ?_, ?_, ?_, ?_, ?_, ?_, ?_⟩
  · rw [ne 0 (by unfold Lv; omega) (by omega)]; exact c2
  · rw [ne 15 (by unfold Lv; omega) (by omega)]; exact c3
  · exact c4.keep (ne 1 (by unfold Lv; omega) (by omega)) (fun z => ne 2 (by unfold Lv; omega) (by omega))
  · exact c5.keep (ne 3 (by unfold Lv; omega) (by omega)) (fun z => ne 4 (by unfold Lv; omega) (by omega))
  · obtain ⟨f, f1, f2⟩ := c6
    refine ⟨f, (ne 5 (by unfold Lv; omega) (by omega)).trans f1, fun r hr => ⟨(f2 r hr).1, fun k hk => ?_⟩⟩
    rw [(f2 r hr).2 k hk]
    unfold reach
    rw [e2, e8, e9]
  · intro o h1 h2
    obtain ⟨t1, ⟨f, f1, f2⟩, ⟨g, g1, g2⟩, x1, x2, x3, x4, x5, x6⟩ := c7 o h1 h2
    refine ⟨?_, ⟨f, (ne _ (by unfold Lv; omega) (by omega)).trans f1, by rw [e8, e9]; exact f2⟩, ⟨g, (ne _ (by unfold Lv; omega) (by omega)).trans g1, by rw [e8, e10]; exact g2⟩, x1, x2, x3, x4, (ne _ (by unfold Lv; omega) (by omega)).trans x5, x6⟩
    by_cases e : o = t
    · subst e; exact hup_eq _ _ _
    · rw [ne _ (by unfold Lv; omega) (by omega), t1]
      show some (Sum.inr (6, TF AD σ o)) = some (Sum.inr (6, TF AD σ' o))
      simp only [TF, eo _ o e]
  · intro i h1 h2
    rw [ne _ (by unfold Lv; omega) (by omega)]
    simp only [IF, e12, e13]; exact c8 i h1 h2
  · obtain ⟨⟨kn, ct, en, p1, p2⟩, ⟨f, f1⟩, p3⟩ := c9
    refine ⟨⟨kn, ct, en, (ne 6 (by unfold Lv; omega) (by omega)).trans p1, p2⟩, ⟨f, (ne 8 (by unfold Lv; omega) (by omega)).trans f1⟩, fun j hj => ?_⟩
    obtain ⟨f, f1⟩ := p3 j hj
    exact ⟨f, (ne j (by unfold Lv; omega) (by omega)).trans f1⟩
  · obtain ⟨x1, x2, x3, x4, x5, x6⟩ := c10
    exact ⟨x1, x2, x3, x4, (ne _ (by unfold Lv; omega) (by omega)).trans x5, x6⟩
/-- the cells of the runs may change -/
theorem Cr.ph {G : Gt} {h : hF} {AD : Nat → Nat} {σ : St} {n m : Nat} (hC : Cr G h AD σ n m) (hn16 : n ≤ 16) {h' : hF} (hP : PhAt G h' AD) (he : ∀ a : Nat, (∀ k : Nat, 6 ≤ k → k ≤ 13 → a ≠ AD k) → h' a = h a) : Cr G h' AD σ n m := by
  have ne : ∀ j : Nat, Lv n m j → (j < 6 ∨ 13 < j) → h' (AD j) = h (AD j) := fun j hj e => he _ (fun k k1 k2 => hC.inj hj (by unfold Lv; omega) (by omega))
  obtain ⟨c1, ⟨c2, c3⟩, c4, c5, c6, c7, c8, c9, c10⟩ := hC
  refine ⟨c1, ⟨?_, ?_⟩, ?_, ?_, ?_, ?_, ?_, hP, ?_⟩
  · rw [ne 0 (by unfold Lv; omega) (by omega)]; exact c2
  · rw [ne 15 (by unfold Lv; omega) (by omega)]; exact c3
  · exact c4.keep (ne 1 (by unfold Lv; omega) (by omega)) (fun z => ne 2 (by unfold Lv; omega) (by omega))
  · exact c5.keep (ne 3 (by unfold Lv; omega) (by omega)) (fun z => ne 4 (by unfold Lv; omega) (by omega))
  · obtain ⟨f, f1, f2⟩ := c6
    exact ⟨f, (ne 5 (by unfold Lv; omega) (by omega)).trans f1, f2⟩
  · intro o h1 h2
    obtain ⟨t1, ⟨f, f1, f2⟩, ⟨g, g1, g2⟩, x1, x2, x3, x4, x5, x6⟩ := c7 o h1 h2
    exact ⟨(ne _ (by unfold Lv; omega) (by omega)).trans t1, ⟨f, (ne _ (by unfold Lv; omega) (by omega)).trans f1, f2⟩, ⟨g, (ne _ (by unfold Lv; omega) (by omega)).trans g1, g2⟩, x1, x2, x3, x4, (ne _ (by unfold Lv; omega) (by omega)).trans x5, x6⟩
  · intro i h1 h2
    rw [ne _ (by unfold Lv; omega) (by omega)]; exact c8 i h1 h2
  · obtain ⟨x1, x2, x3, x4, x5, x6⟩ := c10
    exact ⟨x1, x2, x3, x4, (ne _ (by unfold Lv; omega) (by omega)).trans x5, x6⟩
theorem PhAt.kn {G : Gt} {h : hF} {AD : Nat → Nat} {σ : St} {n m : Nat} (hC : Cr G h AD σ n m) {kn ct en : Int} (hk : kn = 0 ∨ kn = 1) : PhAt G (hup h (AD 6) (.inr (5, PF AD kn ct en))) AD := by
  obtain ⟨-, -, -, -, -, -, -, ⟨-, ⟨f, f1⟩, p3⟩, -⟩ := id hC
  have ne : ∀ j : Nat, 7 ≤ j → j ≤ 13 → hup h (AD 6) (.inr (5, PF AD kn ct en)) (AD j) = h (AD j) := fun j h1 h2 => hup_ne (hC.inj (by unfold Lv; omega) (by unfold Lv; omega) (by omega))
  refine ⟨⟨kn, ct, en, hup_eq _ _ _, hk⟩, ⟨f, (ne 8 (by omega) (by omega)).trans f1⟩, fun k hk2 => ?_⟩
  obtain ⟨g, g1⟩ := p3 k hk2
  exact ⟨g, (ne k (by omega) (by omega)).trans g1⟩
set_option maxRecDepth 100000 in
set_option maxHeartbeats 4000000 in
theorem c_forget {l : Launch} {G : Gt} {B : Nat} {h : hF} {AD : Nat → Nat} {σ : St} {n m : Nat} (hC0 : Cr G h AD σ n m) (hn16 : n ≤ 16) : Cv l G B yX5_forgetFindings cX5_forgetFindings 2 3 0 0 [.ref (AD 15)] h (fun h' => Cr G h' AD σ n m ∧ FKn h' AD σ n m ∧ PKn G h' AD σ n ∧ Fc h h' AD n m) := by
  refine Cv.of (by decide) (Nat.le_of_ble_eq_true rfl) ?_
  intro p e s m9 below meth c A hX hR hin
  refine J_abs (J0 := J p l e _ s m9 _ below meth c _ _ G A) ?_
  intro JX hji hjo
  have lp : ∀ (d o : Nat) (h1 : hF), d + o = n → Cr G h1 AD σ n m → Fc h h1 AD n m → (∀ t : Nat, 1 ≤ t → t ≤ o → ∃ b c d : Int, h1 (AD (23 + 4 * t)) = some (.inr (3, FF4 0 b c d))) → JX 0 0 2 [(0, .ref (AD 15)), (1, .int (iZ ((o : Nat) : Int)))] [] h1 := by
    intro d
    induction d with
    | zero =>
      intro o h1 hd hC1 hF1 hz0
      have hC := hC1
      have h_C := hC.2.1.1
      have hTL := hC.2.2.1
      have hTL9 := hTL
      obtain ⟨mcT, capT, gT, h_TL, -⟩ := hTL9
      have h_S := hC.2.1.2
      obtain ⟨⟨kn9, ct9, en9, h_P, hkn⟩, -, hp7⟩ := hC1.2.2.2.2.2.2.2.1
      obtain ⟨f7, h7⟩ := hp7 7 (Or.inl rfl)
      refine hji ?_
      refine j_iload_n hX dX5_forgetFindings_2 rfl ?_
      refine j_aload_n hX dX5_forgetFindings_3 rfl ?_
      refine j_get hX fl_X5_10_7 dX5_forgetFindings_4 h_S (by rfl) ?_
      refine j_get hX fl_X5_36_2 dX5_forgetFindings_7 h_C (by rfl) ?_
      refine j_callV hX cv_X5_40 (c_size hTL) dX5_forgetFindings_10 h_TL rfl rfl (by exact ⟨Nat.le_of_ble_eq_true rfl, Nat.le_of_ble_eq_true rfl⟩) (by exact ⟨Nat.le_of_ble_eq_true rfl, Nat.le_of_ble_eq_true rfl⟩) (by exact Nat.le_of_ble_eq_true rfl) (fun v10 h10 hp10 => ?_) rfl
      obtain ⟨rfl, rfl⟩ := hp10
      refine j_icmp_ge hX 43 dX5_forgetFindings_13 (by decide) (by omega) (by omega) (fun c13 => ?_) (fun c13 => absurd c13 (by omega))
      refine j_aload_n hX dX5_forgetFindings_43 rfl ?_
      refine j_get hX fl_X5_19_7 dX5_forgetFindings_44 h_S (by rfl) ?_
      refine j_iconst hX dX5_forgetFindings_47 ?_
      refine j_putE hX fp_X5_157_5 dX5_forgetFindings_48 h_P rfl rfl (Nat.le_of_ble_eq_true rfl) (fs2 := (PF AD 0 ct9 en9)) rfl ?_
      exact j_vret hX hR dX5_forgetFindings_51 ⟨hC1.ph hn16 (PhAt.kn hC1 (Or.inl rfl)) (fun a q => hup_ne (q 6 (by omega) (by omega))), fun t t1 t2 => by obtain ⟨b, c, d, q⟩ := hz0 t t1 (by omega); exact ⟨0, b, c, d, (hup_ne (hC1.inj (by unfold Lv; omega) (by unfold Lv; omega) (by omega))).trans q, Or.inl rfl, fun z9 => by omega⟩, ⟨0, ct9, en9, f7, hup_eq _ _ _, (hup_ne (hC1.inj (by unfold Lv; omega) (by unfold Lv; omega) (by omega))).trans h7, Or.inl rfl, fun z9 => by omega⟩, hF1.up (by unfold Lv; omega) _⟩
    | succ d ih =>
      intro o h1 hd hC1 hF1 hz0
      have hC := hC1
      have h_C := hC.2.1.1
      have hTL := hC.2.2.1
      have hTL9 := hTL
      obtain ⟨mcT, capT, gT, h_TL, -⟩ := hTL9
      have h_S := hC.2.1.2
      have h_O := hC.task (t := o + 1) ⟨by omega, by omega⟩
      obtain ⟨fa, fb, fc, fd, h_F, hfa⟩ := (hC1.2.2.2.2.2.1 (o + 1) (by omega) (by omega)).2.2.2
      have e9 : 20 + 4 * (o + 1) = 24 + 4 * o := by omega
      refine hji ?_
      refine j_iload_n hX dX5_forgetFindings_2 rfl ?_
      refine j_aload_n hX dX5_forgetFindings_3 rfl ?_
      refine j_get hX fl_X5_10_7 dX5_forgetFindings_4 h_S (by rfl) ?_
      refine j_get hX fl_X5_36_2 dX5_forgetFindings_7 h_C (by rfl) ?_
      refine j_callV hX cv_X5_40 (c_size hTL) dX5_forgetFindings_10 h_TL rfl rfl (by exact ⟨Nat.le_of_ble_eq_true rfl, Nat.le_of_ble_eq_true rfl⟩) (by exact ⟨Nat.le_of_ble_eq_true rfl, Nat.le_of_ble_eq_true rfl⟩) (by exact Nat.le_of_ble_eq_true rfl) (fun v10 h10 hp10 => ?_) rfl
      obtain ⟨rfl, rfl⟩ := hp10
      refine j_icmp_ge hX 43 dX5_forgetFindings_13 (by decide) (by omega) (by omega) (fun c13 => absurd c13 (by omega)) (fun c13 => ?_)
      refine j_aload_n hX dX5_forgetFindings_16 rfl ?_
      refine j_get hX fl_X5_10_7 dX5_forgetFindings_17 h_S (by rfl) ?_
      refine j_get hX fl_X5_36_2 dX5_forgetFindings_20 h_C (by rfl) ?_
      refine j_iload_n hX dX5_forgetFindings_23 rfl ?_
      refine j_callV hX cv_X5_144 (c_get hTL (by omega) (i := o) (x := AD (20 + 4 * (o + 1))) (by omega) (by rw [e9])) dX5_forgetFindings_24 h_TL rfl rfl (by exact ⟨Nat.le_of_ble_eq_true rfl, Nat.le_of_ble_eq_true rfl⟩) (by exact ⟨Nat.le_of_ble_eq_true rfl, Nat.le_of_ble_eq_true rfl⟩) (by exact Nat.le_of_ble_eq_true rfl) (fun v24 h24 hp24 => ?_) rfl
      obtain ⟨rfl, rfl⟩ := hp24
      have h_T := h_O
      refine j_castS hX ck_X5_53 dX5_forgetFindings_27 h_T rfl ?_
      refine j_get hX fl_X5_183_6 dX5_forgetFindings_30 h_O (by rfl) ?_
      refine j_iconst hX dX5_forgetFindings_33 ?_
      refine j_putE hX fp_X5_186_3 dX5_forgetFindings_34 h_F rfl rfl (Nat.le_of_ble_eq_true rfl) (fs2 := (FF4 0 fb fc fd)) rfl ?_
      refine j_iinc hX dX5_forgetFindings_37 rfl (by decide) ?_
      refine j_goto hX 2 dX5_forgetFindings_40 (by decide) ?_
      exact j_at (L' := [(0, .ref (AD 15)), (1, .int (iZ (((o + 1) : Nat) : Int)))]) (hjo (ih (o + 1) _ (by omega) (hC1.fnd hn16 (Or.inr ⟨o + 1, by omega, by omega, rfl⟩) 0 fb fc fd (Or.inl rfl)) (hF1.up (by unfold Lv; omega) _) (fun t t1 t2 => by by_cases e : t = o + 1; subst e; exact ⟨fb, fc, fd, hup_eq _ _ _⟩; obtain ⟨b, c, d, q⟩ := hz0 t t1 (by omega); exact ⟨b, c, d, (hup_ne (hC1.inj (by unfold Lv; omega) (by unfold Lv; omega) (by omega))).trans q⟩))) ⟨rfl, rfl, trivial⟩
  refine hji ?_
  refine j_iconst hX dX5_forgetFindings_0 ?_
  refine j_istore_n hX dX5_forgetFindings_1 (by decide) ?_
  exact j_at (L' := [(0, .ref (AD 15)), (1, .int (iZ ((0 : Nat) : Int)))]) (hjo (lp n 0 h (by omega) hC0 (Fc.rf h AD n m) (fun t t1 t2 => absurd t1 (by omega)))) ⟨rfl, rfl, trivial⟩
set_option maxRecDepth 100000 in
set_option maxHeartbeats 4000000 in
theorem c_jitter {l : Launch} {G : Gt} {B : Nat} {h : hF} {AD : Nat → Nat} {σ : St} {n m : Nat} (hL : Cl G h AD σ n m) (hO : OK n m σ) {z : Int} (hz : -2147483648 ≤ z ∧ z < 2147483648) {x : Int} (hx9 : -9223372036854775808 ≤ x ∧ x < 9223372036854775808) : Ct l G B yX5_jitter cX5_jitter 5 (some .int) 4 0 0 [.ref (AD 15), .int (iZ z), .long (lZ x)] h (fun v h' => v = .int (iZ (setR n z 0 20000 x)) ∧ Cl G h' AD (setS σ n 3 z 0 20000 x) n m ∧ Fc h h' AD n m) := by
  refine Ct.of (by decide) (Nat.le_of_ble_eq_true rfl) ?_
  intro p e s m9 below meth c A hX hR hin
  have hC := hL.1
  have hn16 := hO.1
  have hm8 := hO.2.1
  have h_C := hC.2.1.1
  have hTL := hC.2.2.1
  have hIL := hC.2.2.2.1
  have hTL9 := hTL
  obtain ⟨mcT, capT, gT, h_TL, -⟩ := hTL9
  have hIL9 := hIL
  obtain ⟨mcI, capI, gI9, h_IL, -⟩ := hIL9
  have h_S := hC.2.1.2
  by_cases hz1 : 1 ≤ z ∧ z ≤ (n : Int)
  · obtain ⟨t, rfl⟩ : ∃ t : Nat, z = (t : Int) := ⟨z.toNat, by omega⟩
    have ht : 1 ≤ t ∧ t ≤ n := by omega
    have htn : (t : Int).toNat = t := rfl
    refine j_aload_n hX dX5_jitter_0 rfl ?_
    refine j_get hX fl_X5_10_7 dX5_jitter_1 h_S (by rfl) ?_
    refine j_iload_n hX dX5_jitter_4 rfl ?_
    refine j_callV hX cv_X5_65 (c_taskOfT hC hO ht) dX5_jitter_5 h_C rfl rfl (by exact ⟨Nat.le_of_ble_eq_true rfl, Nat.le_of_ble_eq_true rfl⟩) (by exact ⟨Nat.le_of_ble_eq_true rfl, Nat.le_of_ble_eq_true rfl⟩) (by exact Nat.le_of_ble_eq_true rfl) (fun v5 h5 hp5 => ?_) rfl
    obtain ⟨rfl, rfl⟩ := hp5
    have h_T := hC.task ht
    refine j_astore hX dX5_jitter_8 (by decide) ?_
    refine j_aload hX dX5_jitter_10 rfl ?_
    refine j_ifnonnull hX 17 dX5_jitter_12 (by decide) ?_
    refine j_lload_n hX dX5_jitter_17 rfl ?_
    refine j_lconst0 hX dX5_jitter_18 ?_
    refine j_lcmp_lt hX 31 dX5_jitter_19 dX5_jitter_20 (by decide) (by omega) (by omega) (fun c19 => ?_) (fun c19 => ?_)
    · refine j_bipush hX dX5_jitter_31 (by decide) ?_
      exact j_iret hX hR dX5_jitter_33 ⟨by rw [setR, if_pos hz1, if_neg (by omega)], by rw [setS, if_neg (by omega)]; exact hL, Fc.rf h AD n m⟩
    · refine j_lload_n hX dX5_jitter_23 rfl ?_
      refine j_ldc2 hX k_X5_34 (z := 20000) (by decide) dX5_jitter_24 ?_
      refine j_lcmp_le hX 34 dX5_jitter_27 dX5_jitter_28 (by decide) (by omega) (by omega) (fun c27 => ?_) (fun c27 => ?_)
      · refine j_aload hX dX5_jitter_34 rfl ?_
        refine j_lload_n hX dX5_jitter_36 rfl ?_
        refine j_putE hX fp_X5_69_6 dX5_jitter_37 h_T rfl rfl (Nat.le_of_ble_eq_true rfl) (fs2 := (TF AD (st1 σ 3 t x) t)) (TF_3 AD σ t x) ?_
        have hC1 := hC.tskf hO.1 ht (σ' := (st1 σ 3 t x)) rfl rfl rfl rfl rfl rfl (fun k o e => st1_o σ 3 t x e)
        have hF1 := (Fc.rf h AD n m).up (k := 20 + 4 * t) (by unfold Lv; omega) (.inr (6, TF AD (st1 σ 3 t x) t))
        have h_S := hC1.2.1.2
        refine j_aload_n hX dX5_jitter_40 rfl ?_
        refine j_callVv hX cv_X5_62 (c_forget hC1 hO.1) dX5_jitter_41 h_S rfl rfl (by exact ⟨Nat.le_of_ble_eq_true rfl, Nat.le_of_ble_eq_true rfl⟩) (by exact ⟨Nat.le_of_ble_eq_true rfl, Nat.le_of_ble_eq_true rfl⟩) (by exact Nat.le_of_ble_eq_true rfl) (fun h41 hp41 => ?_) rfl
        obtain ⟨hC2, hK2, hP2, hF2⟩ := hp41
        refine j_iconst hX dX5_jitter_44 ?_
        exact j_iret hX hR dX5_jitter_45 ⟨by rw [setR, if_pos hz1, if_pos ⟨by omega, by omega⟩], by rw [setS, if_pos ⟨hz1, by omega, by omega⟩]; exact ⟨hC2, hK2, hP2⟩, hF1.tr hF2⟩
      · refine j_bipush hX dX5_jitter_31 (by decide) ?_
        exact j_iret hX hR dX5_jitter_33 ⟨by rw [setR, if_pos hz1, if_neg (by omega)], by rw [setS, if_neg (by omega)]; exact hL, Fc.rf h AD n m⟩
  · refine j_aload_n hX dX5_jitter_0 rfl ?_
    refine j_get hX fl_X5_10_7 dX5_jitter_1 h_S (by rfl) ?_
    refine j_iload_n hX dX5_jitter_4 rfl ?_
    refine j_callV hX cv_X5_65 (c_taskOfN hC hO hz hz1) dX5_jitter_5 h_C rfl rfl (by exact ⟨Nat.le_of_ble_eq_true rfl, Nat.le_of_ble_eq_true rfl⟩) (by exact ⟨Nat.le_of_ble_eq_true rfl, Nat.le_of_ble_eq_true rfl⟩) (by exact Nat.le_of_ble_eq_true rfl) (fun v5 h5 hp5 => ?_) rfl
    obtain ⟨rfl, rfl⟩ := hp5
    refine j_astoreN hX dX5_jitter_8 (by decide) ?_
    refine j_aloadN hX dX5_jitter_10 rfl ?_
    refine j_ifnonnullN hX dX5_jitter_12 ?_
    refine j_iconst hX dX5_jitter_15 ?_
    exact j_iret hX hR dX5_jitter_16 ⟨by rw [setR, if_neg hz1], by rw [setS, if_neg (fun z9 => hz1 z9.1)]; exact hL, Fc.rf h AD n m⟩
set_option maxRecDepth 100000 in
set_option maxHeartbeats 4000000 in
theorem c_spin {l : Launch} {G : Gt} {B : Nat} {h : hF} {AD : Nat → Nat} {σ : St} {n m : Nat} (hL : Cl G h AD σ n m) (hO : OK n m σ) {z : Int} (hz : -2147483648 ≤ z ∧ z < 2147483648) {x : Int} (hx9 : -9223372036854775808 ≤ x ∧ x < 9223372036854775808) : Ct l G B yX5_spin cX5_spin 5 (some .int) 4 0 0 [.ref (AD 15), .int (iZ z), .long (lZ x)] h (fun v h' => v = .int (iZ (setR n z 0 1000 x)) ∧ Cl G h' AD (setS σ n 6 z 0 1000 x) n m ∧ Fc h h' AD n m) := by
  refine Ct.of (by decide) (Nat.le_of_ble_eq_true rfl) ?_
  intro p e s m9 below meth c A hX hR hin
  have hC := hL.1
  have hn16 := hO.1
  have hm8 := hO.2.1
  have h_C := hC.2.1.1
  have hTL := hC.2.2.1
  have hIL := hC.2.2.2.1
  have hTL9 := hTL
  obtain ⟨mcT, capT, gT, h_TL, -⟩ := hTL9
  have hIL9 := hIL
  obtain ⟨mcI, capI, gI9, h_IL, -⟩ := hIL9
  have h_S := hC.2.1.2
  by_cases hz1 : 1 ≤ z ∧ z ≤ (n : Int)
  · obtain ⟨t, rfl⟩ : ∃ t : Nat, z = (t : Int) := ⟨z.toNat, by omega⟩
    have ht : 1 ≤ t ∧ t ≤ n := by omega
    have htn : (t : Int).toNat = t := rfl
    refine j_aload_n hX dX5_spin_0 rfl ?_
    refine j_get hX fl_X5_10_7 dX5_spin_1 h_S (by rfl) ?_
    refine j_iload_n hX dX5_spin_4 rfl ?_
    refine j_callV hX cv_X5_65 (c_taskOfT hC hO ht) dX5_spin_5 h_C rfl rfl (by exact ⟨Nat.le_of_ble_eq_true rfl, Nat.le_of_ble_eq_true rfl⟩) (by exact ⟨Nat.le_of_ble_eq_true rfl, Nat.le_of_ble_eq_true rfl⟩) (by exact Nat.le_of_ble_eq_true rfl) (fun v5 h5 hp5 => ?_) rfl
    obtain ⟨rfl, rfl⟩ := hp5
    have h_T := hC.task ht
    refine j_astore hX dX5_spin_8 (by decide) ?_
    refine j_aload hX dX5_spin_10 rfl ?_
    refine j_ifnonnull hX 17 dX5_spin_12 (by decide) ?_
    refine j_lload_n hX dX5_spin_17 rfl ?_
    refine j_lconst0 hX dX5_spin_18 ?_
    refine j_lcmp_lt hX 31 dX5_spin_19 dX5_spin_20 (by decide) (by omega) (by omega) (fun c19 => ?_) (fun c19 => ?_)
    · refine j_bipush hX dX5_spin_31 (by decide) ?_
      exact j_iret hX hR dX5_spin_33 ⟨by rw [setR, if_pos hz1, if_neg (by omega)], by rw [setS, if_neg (by omega)]; exact hL, Fc.rf h AD n m⟩
    · refine j_lload_n hX dX5_spin_23 rfl ?_
      refine j_ldc2 hX k_X5_136 (z := 1000) (by decide) dX5_spin_24 ?_
      refine j_lcmp_le hX 34 dX5_spin_27 dX5_spin_28 (by decide) (by omega) (by omega) (fun c27 => ?_) (fun c27 => ?_)
      · refine j_aload hX dX5_spin_34 rfl ?_
        refine j_lload_n hX dX5_spin_36 rfl ?_
        refine j_putE hX fp_X5_180_6 dX5_spin_37 h_T rfl rfl (Nat.le_of_ble_eq_true rfl) (fs2 := (TF AD (st1 σ 6 t x) t)) (TF_6 AD σ t x) ?_
        have hC1 := hC.tskf hO.1 ht (σ' := (st1 σ 6 t x)) rfl rfl rfl rfl rfl rfl (fun k o e => st1_o σ 6 t x e)
        have hF1 := (Fc.rf h AD n m).up (k := 20 + 4 * t) (by unfold Lv; omega) (.inr (6, TF AD (st1 σ 6 t x) t))
        have h_S := hC1.2.1.2
        refine j_aload_n hX dX5_spin_40 rfl ?_
        refine j_callVv hX cv_X5_62 (c_forget hC1 hO.1) dX5_spin_41 h_S rfl rfl (by exact ⟨Nat.le_of_ble_eq_true rfl, Nat.le_of_ble_eq_true rfl⟩) (by exact ⟨Nat.le_of_ble_eq_true rfl, Nat.le_of_ble_eq_true rfl⟩) (by exact Nat.le_of_ble_eq_true rfl) (fun h41 hp41 => ?_) rfl
        obtain ⟨hC2, hK2, hP2, hF2⟩ := hp41
        refine j_iconst hX dX5_spin_44 ?_
        exact j_iret hX hR dX5_spin_45 ⟨by rw [setR, if_pos hz1, if_pos ⟨by omega, by omega⟩], by rw [setS, if_pos ⟨hz1, by omega, by omega⟩]; exact ⟨hC2, hK2, hP2⟩, hF1.tr hF2⟩
      · refine j_bipush hX dX5_spin_31 (by decide) ?_
        exact j_iret hX hR dX5_spin_33 ⟨by rw [setR, if_pos hz1, if_neg (by omega)], by rw [setS, if_neg (by omega)]; exact hL, Fc.rf h AD n m⟩
  · refine j_aload_n hX dX5_spin_0 rfl ?_
    refine j_get hX fl_X5_10_7 dX5_spin_1 h_S (by rfl) ?_
    refine j_iload_n hX dX5_spin_4 rfl ?_
    refine j_callV hX cv_X5_65 (c_taskOfN hC hO hz hz1) dX5_spin_5 h_C rfl rfl (by exact ⟨Nat.le_of_ble_eq_true rfl, Nat.le_of_ble_eq_true rfl⟩) (by exact ⟨Nat.le_of_ble_eq_true rfl, Nat.le_of_ble_eq_true rfl⟩) (by exact Nat.le_of_ble_eq_true rfl) (fun v5 h5 hp5 => ?_) rfl
    obtain ⟨rfl, rfl⟩ := hp5
    refine j_astoreN hX dX5_spin_8 (by decide) ?_
    refine j_aloadN hX dX5_spin_10 rfl ?_
    refine j_ifnonnullN hX dX5_spin_12 ?_
    refine j_iconst hX dX5_spin_15 ?_
    exact j_iret hX hR dX5_spin_16 ⟨by rw [setR, if_neg hz1], by rw [setS, if_neg (fun z9 => hz1 z9.1)]; exact hL, Fc.rf h AD n m⟩
set_option maxRecDepth 100000 in
set_option maxHeartbeats 4000000 in
theorem c_offset {l : Launch} {G : Gt} {B : Nat} {h : hF} {AD : Nat → Nat} {σ : St} {n m : Nat} (hL : Cl G h AD σ n m) (hO : OK n m σ) {z : Int} (hz : -2147483648 ≤ z ∧ z < 2147483648) {x : Int} (hx9 : -9223372036854775808 ≤ x ∧ x < 9223372036854775808) : Ct l G B yX5_offset cX5_offset 5 (some .int) 4 0 0 [.ref (AD 15), .int (iZ z), .long (lZ x)] h (fun v h' => v = .int (iZ (setR n z (-1) (perZ σ z) x)) ∧ Cl G h' AD (setS σ n 7 z (-1) (perZ σ z) x) n m ∧ Fc h h' AD n m) := by
  refine Ct.of (by decide) (Nat.le_of_ble_eq_true rfl) ?_
  intro p e s m9 below meth c A hX hR hin
  have hC := hL.1
  have hn16 := hO.1
  have hm8 := hO.2.1
  have h_C := hC.2.1.1
  have hTL := hC.2.2.1
  have hIL := hC.2.2.2.1
  have hTL9 := hTL
  obtain ⟨mcT, capT, gT, h_TL, -⟩ := hTL9
  have hIL9 := hIL
  obtain ⟨mcI, capI, gI9, h_IL, -⟩ := hIL9
  have h_S := hC.2.1.2
  by_cases hz1 : 1 ≤ z ∧ z ≤ (n : Int)
  · obtain ⟨t, rfl⟩ : ∃ t : Nat, z = (t : Int) := ⟨z.toNat, by omega⟩
    have ht : 1 ≤ t ∧ t ≤ n := by omega
    have htn : (t : Int).toNat = t := rfl
    obtain ⟨-, o1, -⟩ := hO.2.2.1 t ht.1 ht.2
    have hpz : perZ σ (t : Int) = σ 1 t - 1 := rfl
    refine j_aload_n hX dX5_offset_0 rfl ?_
    refine j_get hX fl_X5_10_7 dX5_offset_1 h_S (by rfl) ?_
    refine j_iload_n hX dX5_offset_4 rfl ?_
    refine j_callV hX cv_X5_65 (c_taskOfT hC hO ht) dX5_offset_5 h_C rfl rfl (by exact ⟨Nat.le_of_ble_eq_true rfl, Nat.le_of_ble_eq_true rfl⟩) (by exact ⟨Nat.le_of_ble_eq_true rfl, Nat.le_of_ble_eq_true rfl⟩) (by exact Nat.le_of_ble_eq_true rfl) (fun v5 h5 hp5 => ?_) rfl
    obtain ⟨rfl, rfl⟩ := hp5
    have h_T := hC.task ht
    refine j_astore hX dX5_offset_8 (by decide) ?_
    refine j_aload hX dX5_offset_10 rfl ?_
    refine j_ifnonnull hX 17 dX5_offset_12 (by decide) ?_
    refine j_lload_n hX dX5_offset_17 rfl ?_
    refine j_ldc2 hX k_X5_97 (z := -1) (by decide) dX5_offset_18 ?_
    refine j_lcmp_lt hX 35 dX5_offset_21 dX5_offset_22 (by decide) (by omega) (by omega) (fun c21 => ?_) (fun c21 => ?_)
    · refine j_bipush hX dX5_offset_35 (by decide) ?_
      exact j_iret hX hR dX5_offset_37 ⟨by rw [setR, if_pos hz1, if_neg (by omega)], by rw [setS, if_neg (by omega)]; exact hL, Fc.rf h AD n m⟩
    · refine j_lload_n hX dX5_offset_25 rfl ?_
      refine j_aload hX dX5_offset_26 rfl ?_
      refine j_get hX fl_X5_99_6 dX5_offset_28 h_T (by rfl) ?_
      refine j_lcmp_lt hX 38 dX5_offset_31 dX5_offset_32 (by decide) (by omega) (by omega) (fun c31 => ?_) (fun c31 => ?_)
      · refine j_aload hX dX5_offset_38 rfl ?_
        refine j_lload_n hX dX5_offset_40 rfl ?_
        refine j_putE hX fp_X5_102_6 dX5_offset_41 h_T rfl rfl (Nat.le_of_ble_eq_true rfl) (fs2 := (TF AD (st1 σ 7 t x) t)) (TF_7 AD σ t x) ?_
        have hC1 := hC.tskf hO.1 ht (σ' := (st1 σ 7 t x)) rfl rfl rfl rfl rfl rfl (fun k o e => st1_o σ 7 t x e)
        have hF1 := (Fc.rf h AD n m).up (k := 20 + 4 * t) (by unfold Lv; omega) (.inr (6, TF AD (st1 σ 7 t x) t))
        have h_S := hC1.2.1.2
        refine j_aload_n hX dX5_offset_44 rfl ?_
        refine j_callVv hX cv_X5_62 (c_forget hC1 hO.1) dX5_offset_45 h_S rfl rfl (by exact ⟨Nat.le_of_ble_eq_true rfl, Nat.le_of_ble_eq_true rfl⟩) (by exact ⟨Nat.le_of_ble_eq_true rfl, Nat.le_of_ble_eq_true rfl⟩) (by exact Nat.le_of_ble_eq_true rfl) (fun h45 hp45 => ?_) rfl
        obtain ⟨hC2, hK2, hP2, hF2⟩ := hp45
        refine j_iconst hX dX5_offset_48 ?_
        exact j_iret hX hR dX5_offset_49 ⟨by rw [setR, if_pos hz1, if_pos ⟨by omega, by omega⟩], by rw [setS, if_pos ⟨hz1, by omega, by omega⟩]; exact ⟨hC2, hK2, hP2⟩, hF1.tr hF2⟩
      · refine j_bipush hX dX5_offset_35 (by decide) ?_
        exact j_iret hX hR dX5_offset_37 ⟨by rw [setR, if_pos hz1, if_neg (by omega)], by rw [setS, if_neg (by omega)]; exact hL, Fc.rf h AD n m⟩
  · refine j_aload_n hX dX5_offset_0 rfl ?_
    refine j_get hX fl_X5_10_7 dX5_offset_1 h_S (by rfl) ?_
    refine j_iload_n hX dX5_offset_4 rfl ?_
    refine j_callV hX cv_X5_65 (c_taskOfN hC hO hz hz1) dX5_offset_5 h_C rfl rfl (by exact ⟨Nat.le_of_ble_eq_true rfl, Nat.le_of_ble_eq_true rfl⟩) (by exact ⟨Nat.le_of_ble_eq_true rfl, Nat.le_of_ble_eq_true rfl⟩) (by exact Nat.le_of_ble_eq_true rfl) (fun v5 h5 hp5 => ?_) rfl
    obtain ⟨rfl, rfl⟩ := hp5
    refine j_astoreN hX dX5_offset_8 (by decide) ?_
    refine j_aloadN hX dX5_offset_10 rfl ?_
    refine j_ifnonnullN hX dX5_offset_12 ?_
    refine j_iconst hX dX5_offset_15 ?_
    exact j_iret hX hR dX5_offset_16 ⟨by rw [setR, if_neg hz1], by rw [setS, if_neg (fun z9 => hz1 z9.1)]; exact hL, Fc.rf h AD n m⟩
set_option maxRecDepth 100000 in
set_option maxHeartbeats 4000000 in
theorem c_isLength {l : Launch} {G : Gt} {B : Nat} {h : hF} {x : Int} (hx : -9223372036854775808 ≤ x ∧ x < 9223372036854775808) : Ct l G B yX5_isLength cX5_isLength 2 (some .boolean) 0 0 0 [.long (lZ x)] h (fun v h' => (∃ y : Int, v = .int (iZ y) ∧ ((y = 1 ∧ 1 ≤ x ∧ x ≤ 1000) ∨ (y = 0 ∧ ¬ (1 ≤ x ∧ x ≤ 1000)))) ∧ h = h') := by
  refine Ct.of (by decide) (Nat.le_of_ble_eq_true rfl) ?_
  intro p e s m9 below meth c A hX hR hin
  refine j_lload_n hX dX5_isLength_0 rfl ?_
  refine j_lconst1 hX dX5_isLength_1 ?_
  refine j_lcmp_lt hX 18 dX5_isLength_2 dX5_isLength_3 (by decide) (by omega) (by omega) (fun c2 => ?_) (fun c2 => ?_)
  · refine j_iconst hX dX5_isLength_18 ?_
    exact j_zret hX hR dX5_isLength_19 (by omega) ⟨⟨_, rfl, by omega⟩, rfl⟩
  · refine j_lload_n hX dX5_isLength_6 rfl ?_
    refine j_ldc2 hX k_X5_136 (z := 1000) (by decide) dX5_isLength_7 ?_
    refine j_lcmp_gt hX 18 dX5_isLength_10 dX5_isLength_11 (by decide) (by omega) (by omega) (fun c10 => ?_) (fun c10 => ?_)
    · refine j_iconst hX dX5_isLength_18 ?_
      exact j_zret hX hR dX5_isLength_19 (by omega) ⟨⟨_, rfl, by omega⟩, rfl⟩
    · refine j_iconst hX dX5_isLength_14 ?_
      refine j_goto hX 19 dX5_isLength_15 (by decide) ?_
      exact j_zret hX hR dX5_isLength_19 (by omega) ⟨⟨_, rfl, by omega⟩, rfl⟩
set_option maxRecDepth 100000 in
set_option maxHeartbeats 4000000 in
theorem c_isPeriod {l : Launch} {G : Gt} {B : Nat} {h : hF} {x : Int} (hx : -9223372036854775808 ≤ x ∧ x < 9223372036854775808) : Ct l G B yX5_isPeriod cX5_isPeriod 2 (some .boolean) 0 0 0 [.long (lZ x)] h (fun v h' => (∃ y : Int, v = .int (iZ y) ∧ ((y = 1 ∧ 1 ≤ x ∧ x ≤ 20000) ∨ (y = 0 ∧ ¬ (1 ≤ x ∧ x ≤ 20000)))) ∧ h = h') := by
  refine Ct.of (by decide) (Nat.le_of_ble_eq_true rfl) ?_
  intro p e s m9 below meth c A hX hR hin
  refine j_lload_n hX dX5_isPeriod_0 rfl ?_
  refine j_lconst1 hX dX5_isPeriod_1 ?_
  refine j_lcmp_lt hX 18 dX5_isPeriod_2 dX5_isPeriod_3 (by decide) (by omega) (by omega) (fun c2 => ?_) (fun c2 => ?_)
  · refine j_iconst hX dX5_isPeriod_18 ?_
    exact j_zret hX hR dX5_isPeriod_19 (by omega) ⟨⟨_, rfl, by omega⟩, rfl⟩
  · refine j_lload_n hX dX5_isPeriod_6 rfl ?_
    refine j_ldc2 hX k_X5_34 (z := 20000) (by decide) dX5_isPeriod_7 ?_
    refine j_lcmp_gt hX 18 dX5_isPeriod_10 dX5_isPeriod_11 (by decide) (by omega) (by omega) (fun c10 => ?_) (fun c10 => ?_)
    · refine j_iconst hX dX5_isPeriod_18 ?_
      exact j_zret hX hR dX5_isPeriod_19 (by omega) ⟨⟨_, rfl, by omega⟩, rfl⟩
    · refine j_iconst hX dX5_isPeriod_14 ?_
      refine j_goto hX 19 dX5_isPeriod_15 (by decide) ?_
      exact j_zret hX hR dX5_isPeriod_19 (by omega) ⟨⟨_, rfl, by omega⟩, rfl⟩
set_option maxRecDepth 100000 in
set_option maxHeartbeats 4000000 in
theorem c_burst {l : Launch} {G : Gt} {B : Nat} {h : hF} {AD : Nat → Nat} {σ : St} {n m : Nat} (hL : Cl G h AD σ n m) (hO : OK n m σ) {z : Int} (hz : -2147483648 ≤ z ∧ z < 2147483648) {y : Int} (hy9 : -2147483648 ≤ y ∧ y < 2147483648) {x : Int} (hx9 : -9223372036854775808 ≤ x ∧ x < 9223372036854775808) : Ct l G B yX5_burst cX5_burst 6 (some .int) 4 0 0 [.ref (AD 15), .int (iZ z), .int (iZ y), .long (lZ x)] h (fun v h' => v = .int (iZ (burR n z y x)) ∧ Cl G h' AD (burS σ n z y x) n m ∧ Fc h h' AD n m) := by
  refine Ct.of (by decide) (Nat.le_of_ble_eq_true rfl) ?_
  intro p e s m9 below meth c A hX hR hin
  have hC := hL.1
  have hn16 := hO.1
  have hm8 := hO.2.1
  have h_C := hC.2.1.1
  have hTL := hC.2.2.1
  have hIL := hC.2.2.2.1
  have hTL9 := hTL
  obtain ⟨mcT, capT, gT, h_TL, -⟩ := hTL9
  have hIL9 := hIL
  obtain ⟨mcI, capI, gI9, h_IL, -⟩ := hIL9
  have h_S := hC.2.1.2
  by_cases hz1 : 1 ≤ z ∧ z ≤ (n : Int)
  · obtain ⟨t, rfl⟩ : ∃ t : Nat, z = (t : Int) := ⟨z.toNat, by omega⟩
    have ht : 1 ≤ t ∧ t ≤ n := by omega
    have htn : (t : Int).toNat = t := rfl
    refine j_aload_n hX dX5_burst_0 rfl ?_
    refine j_get hX fl_X5_10_7 dX5_burst_1 h_S (by rfl) ?_
    refine j_iload_n hX dX5_burst_4 rfl ?_
    refine j_callV hX cv_X5_65 (c_taskOfT hC hO ht) dX5_burst_5 h_C rfl rfl (by exact ⟨Nat.le_of_ble_eq_true rfl, Nat.le_of_ble_eq_true rfl⟩) (by exact ⟨Nat.le_of_ble_eq_true rfl, Nat.le_of_ble_eq_true rfl⟩) (by exact Nat.le_of_ble_eq_true rfl) (fun v5 h5 hp5 => ?_) rfl
    obtain ⟨rfl, rfl⟩ := hp5
    have h_T := hC.task ht
    refine j_astore hX dX5_burst_8 (by decide) ?_
    refine j_aload hX dX5_burst_10 rfl ?_
    refine j_ifnonnull hX 17 dX5_burst_12 (by decide) ?_
    refine j_iload_n hX dX5_burst_17 rfl ?_
    refine j_iconst hX dX5_burst_18 ?_
    refine j_icmp_lt hX 35 dX5_burst_19 (by decide) (by omega) (by omega) (fun c19 => ?_) (fun c19 => ?_)
    · refine j_bipush hX dX5_burst_35 (by decide) ?_
      exact j_iret hX hR dX5_burst_37 ⟨by rw [burR, if_pos hz1, if_neg (by omega)], by rw [burS, if_neg (by omega)]; exact hL, Fc.rf h AD n m⟩
    · refine j_iload_n hX dX5_burst_22 rfl ?_
      refine j_bipush hX dX5_burst_23 (by decide) ?_
      refine j_icmp_gt hX 35 dX5_burst_25 (by decide) (by omega) (by omega) (fun c25 => ?_) (fun c25 => ?_)
      · refine j_bipush hX dX5_burst_35 (by decide) ?_
        exact j_iret hX hR dX5_burst_37 ⟨by rw [burR, if_pos hz1, if_neg (by omega)], by rw [burS, if_neg (by omega)]; exact hL, Fc.rf h AD n m⟩
      · refine j_lload_n hX dX5_burst_28 rfl ?_
        refine j_callS hX cs_X5_73 (c_isPeriod (by omega)) dX5_burst_29 rfl (by exact ⟨Nat.le_of_ble_eq_true rfl, Nat.le_of_ble_eq_true rfl⟩) (by exact ⟨Nat.le_of_ble_eq_true rfl, Nat.le_of_ble_eq_true rfl⟩) (by exact Nat.le_of_ble_eq_true rfl) (fun v29 h29 hp29 => ?_) rfl
        obtain ⟨⟨y29, rfl, hy29⟩, rfl⟩ := hp29
        refine j_if_ne hX 38 dX5_burst_32 (by decide) (by omega) (fun c32 => ?_) (fun c32 => ?_)
        · refine j_aload hX dX5_burst_38 rfl ?_
          refine j_iload_n hX dX5_burst_40 rfl ?_
          refine j_putE hX fp_X5_76_6 dX5_burst_41 h_T rfl rfl (Nat.le_of_ble_eq_true rfl) (fs2 := (TF AD (st1 σ 4 t y) t)) (TF_4 AD σ t y) ?_
          have hC1 := hC.tskf hO.1 ht (σ' := (st1 σ 4 t y)) rfl rfl rfl rfl rfl rfl (fun k o e => st1_o σ 4 t y e)
          have hF1 := (Fc.rf h AD n m).up (k := 20 + 4 * t) (by unfold Lv; omega) (.inr (6, TF AD (st1 σ 4 t y) t))
          have h_T := hC1.task ht
          refine j_aload hX dX5_burst_44 rfl ?_
          refine j_lload_n hX dX5_burst_46 rfl ?_
          refine j_putE hX fp_X5_80_6 dX5_burst_47 h_T rfl rfl (Nat.le_of_ble_eq_true rfl) (fs2 := (TF AD (st1 (st1 σ 4 t y) 5 t x) t)) (TF_5 AD (st1 σ 4 t y) t x) ?_
          have hC2 := hC1.tskf hO.1 ht (σ' := (st1 (st1 σ 4 t y) 5 t x)) rfl rfl rfl rfl rfl rfl (fun k o e => st1_o (st1 σ 4 t y) 5 t x e)
          have hF2 := hF1.up (k := 20 + 4 * t) (by unfold Lv; omega) (.inr (6, TF AD (st1 (st1 σ 4 t y) 5 t x) t))
          have h_S := hC2.2.1.2
          refine j_aload_n hX dX5_burst_50 rfl ?_
          refine j_callVv hX cv_X5_62 (c_forget hC2 hO.1) dX5_burst_51 h_S rfl rfl (by exact ⟨Nat.le_of_ble_eq_true rfl, Nat.le_of_ble_eq_true rfl⟩) (by exact ⟨Nat.le_of_ble_eq_true rfl, Nat.le_of_ble_eq_true rfl⟩) (by exact Nat.le_of_ble_eq_true rfl) (fun h51 hp51 => ?_) rfl
          obtain ⟨hC3, hK3, hP3, hF3⟩ := hp51
          refine j_iconst hX dX5_burst_54 ?_
          exact j_iret hX hR dX5_burst_55 ⟨by rw [burR, if_pos hz1, if_pos ⟨by omega, by omega⟩], by rw [burS, if_pos ⟨hz1, by omega, by omega⟩]; exact ⟨hC3, hK3, hP3⟩, hF2.tr hF3⟩
        · refine j_bipush hX dX5_burst_35 (by decide) ?_
          exact j_iret hX hR dX5_burst_37 ⟨by rw [burR, if_pos hz1, if_neg (by omega)], by rw [burS, if_neg (by omega)]; exact hL, Fc.rf h AD n m⟩
  · refine j_aload_n hX dX5_burst_0 rfl ?_
    refine j_get hX fl_X5_10_7 dX5_burst_1 h_S (by rfl) ?_
    refine j_iload_n hX dX5_burst_4 rfl ?_
    refine j_callV hX cv_X5_65 (c_taskOfN hC hO hz hz1) dX5_burst_5 h_C rfl rfl (by exact ⟨Nat.le_of_ble_eq_true rfl, Nat.le_of_ble_eq_true rfl⟩) (by exact ⟨Nat.le_of_ble_eq_true rfl, Nat.le_of_ble_eq_true rfl⟩) (by exact Nat.le_of_ble_eq_true rfl) (fun v5 h5 hp5 => ?_) rfl
    obtain ⟨rfl, rfl⟩ := hp5
    refine j_astoreN hX dX5_burst_8 (by decide) ?_
    refine j_aloadN hX dX5_burst_10 rfl ?_
    refine j_ifnonnullN hX dX5_burst_12 ?_
    refine j_iconst hX dX5_burst_15 ?_
    exact j_iret hX hR dX5_burst_16 ⟨by rw [burR, if_neg hz1], by rw [burS, if_neg (fun z9 => hz1 z9.1)]; exact hL, Fc.rf h AD n m⟩
set_option maxRecDepth 100000 in
set_option maxHeartbeats 4000000 in
theorem c_longer {l : Launch} {G : Gt} {B : Nat} {h : hF} {AD : Nat → Nat} {σ : St} {n m : Nat} (hL : Cl G h AD σ n m) (hO : OK n m σ) {z : Int} (hz : -2147483648 ≤ z ∧ z < 2147483648) : Ct l G B yX5_longer cX5_longer 12 (some .long) 7 0 0 [.ref (AD 15), .int (iZ z)] h (fun v h' => v = .long (lZ (lngF σ n m z)) ∧ Cl G h' AD σ n m ∧ Fc h h' AD n m) := by
  refine Ct.of (by decide) (Nat.le_of_ble_eq_true rfl) ?_
  intro p e s m9 below meth c A hX hR hin
  have hC := hL.1
  have hn16 := hO.1
  have hm8 := hO.2.1
  have h_C := hC.2.1.1
  have hTL := hC.2.2.1
  have hIL := hC.2.2.2.1
  have hTL9 := hTL
  obtain ⟨mcT, capT, gT, h_TL, -⟩ := hTL9
  have hIL9 := hIL
  obtain ⟨mcI, capI, gI9, h_IL, -⟩ := hIL9
  have h_S := hC.2.1.2
  by_cases hz1 : 1 ≤ z ∧ z ≤ (n : Int)
  · obtain ⟨t, rfl⟩ : ∃ t : Nat, z = (t : Int) := ⟨z.toNat, by omega⟩
    have ht : 1 ≤ t ∧ t ≤ n := by omega
    have htn : (t : Int).toNat = t := rfl
    refine J_abs (J0 := J p l e _ s m9 _ below meth c _ _ G A) ?_
    intro JX hji hjo
    obtain ⟨o0, -⟩ := hO.2.2.1 t ht.1 ht.2
    have lp : allA σ n m → ∀ (d k : Nat) (low most x9 : Int) (step : Nat) (h1 : hF), most - low < (d : Int) → k + step = 1001 → 1 ≤ low → low ≤ most → most ≤ 1000 → most - low + (step : Int) ≤ 999 → (1 ≤ x9 ∧ x9 ≤ 1000) → Cr G h1 AD (ow σ t x9) n m → (∀ a, a ≠ AD 14 → a ≠ AD (20 + 4 * t) → h1 a = h a) → lng σ n m t k low (most + 1) = lng σ n m t 1001 (σ 0 t) 1001 → JX 0 0 44 [(0, .ref (AD 15)), (1, .int (iZ (t : Int))), (2, .ref (AD (20 + 4 * t))), (3, .long (lZ (σ 0 t))), (5, .long (lZ low)), (7, .long (lZ most)), (9, .int (iZ (step : Int)))] [] h1 := by
      intro hal d
      induction d with
      | zero => intro k low most x9 step h1 hd hk hlo hlm; exact absurd hd (by omega)
      | succ d ih =>
        intro k low most x9 step h1 hd hk hlo hlm hmo hst hx hC1 hE hs
        obtain ⟨k, rfl⟩ : ∃ k1, k = k1 + 1 := ⟨k - 1, by omega⟩
        have h_T := hC1.task ht
        have h_S := hC1.2.1.2
        refine hji ?_
        refine j_iload hX dX5_longer_44 rfl ?_
        refine j_i2l hX dX5_longer_46 (by omega) ?_
        refine j_ldc2 hX k_X5_136 (z := 1000) (by decide) dX5_longer_47 ?_
        refine j_lcmp_ge hX 107 dX5_longer_50 dX5_longer_51 (by decide) (by omega) (by omega) (fun c50 => absurd c50 (by omega)) (fun c50 => ?_)
        refine j_lload hX dX5_longer_54 rfl ?_
        refine j_lload hX dX5_longer_56 rfl ?_
        refine j_lcmp_ge hX 107 dX5_longer_58 dX5_longer_59 (by decide) (by omega) (by omega) (fun c58 => ?_) (fun c58 => ?_)
        · refine j_aload_n hX dX5_longer_107 rfl ?_
          refine j_lload_n hX dX5_longer_108 rfl ?_
          refine j_putE hX fp_X5_133_6 dX5_longer_109 h_T rfl rfl (Nat.le_of_ble_eq_true rfl) (fs2 := (TF AD σ t)) (by rw [TF_0]; show TF AD (sup (ow σ t x9) 0 (zup (ow σ t x9 0) t (σ 0 t))) t = _; rw [ow_ow, ow_self]) ?_
          have hC2 : Cr G (hup h1 (AD (20 + 4 * t)) (.inr (6, TF AD σ t))) AD σ n m := hC1.tskf hO.1 ht rfl rfl rfl rfl rfl rfl (fun k o e => (st1_o σ 0 t x9 e).symm)
          refine j_lload hX dX5_longer_112 rfl ?_
          refine j_lload_n hX dX5_longer_114 rfl ?_
          refine j_lsub hX dX5_longer_115 ?_
          exact j_lret hX hR dX5_longer_116 ⟨by rw [lngF, if_pos hz1, if_pos hal, htn]; show _ = Value.long (lZ (lng σ n m t 1001 (σ 0 t) 1001 - σ 0 t)); rw [← hs]; rw [lng, if_neg (by omega)], ⟨hC2, hL.2.1.oth (fun o q1 q2 => (hup_ne (hL.1.inj (by unfold Lv; omega) (by unfold Lv; omega) (by omega))).trans (hE _ (hL.1.inj (by unfold Lv; omega) (by unfold Lv; omega) (by omega)) (hL.1.inj (by unfold Lv; omega) (by unfold Lv; omega) (by omega)))), hL.2.2.oth ((hup_ne (hL.1.inj (by unfold Lv; omega) (by unfold Lv; omega) (by omega))).trans (hE _ (hL.1.inj (by unfold Lv; omega) (by unfold Lv; omega) (by omega)) (hL.1.inj (by unfold Lv; omega) (by unfold Lv; omega) (by omega)))) ((hup_ne (hL.1.inj (by unfold Lv; omega) (by unfold Lv; omega) (by omega))).trans (hE _ (hL.1.inj (by unfold Lv; omega) (by unfold Lv; omega) (by omega)) (hL.1.inj (by unfold Lv; omega) (by unfold Lv; omega) (by omega))))⟩, fun a q1 q2 => (hup_ne (q2 _ (by unfold Lv; omega))).trans (hE a (q2 14 (by unfold Lv; omega)) (q2 _ (by unfold Lv; omega)))⟩
        · refine j_lload hX dX5_longer_62 rfl ?_
          refine j_lload hX dX5_longer_64 rfl ?_
          refine j_ladd hX dX5_longer_66 ?_
          refine j_lconst1 hX dX5_longer_67 ?_
          refine j_ladd hX dX5_longer_68 ?_
          refine j_ldc2 hX k_X5_138 (z := 2) (by decide) dX5_longer_69 ?_
          refine j_ldiv hX dX5_longer_72 (by omega) (by omega) ?_
          refine j_lstore hX dX5_longer_73 (by decide) ?_
          refine j_aload_n hX dX5_longer_75 rfl ?_
          refine j_lload hX dX5_longer_76 rfl ?_
          refine j_putE hX fp_X5_133_6 dX5_longer_78 h_T rfl rfl (Nat.le_of_ble_eq_true rfl) (fs2 := (TF AD (ow σ t ((low + most + 1) / 2)) t)) (by rw [TF_0]; show TF AD (sup (ow σ t x9) 0 (zup (ow σ t x9 0) t _)) t = _; rw [ow_ow]) ?_
          have hxm : 1 ≤ ((low + most + 1) / 2) ∧ ((low + most + 1) / 2) ≤ 1000 := by omega
          have hC2 : Cr G (hup h1 (AD (20 + 4 * t)) (.inr (6, TF AD (ow σ t ((low + most + 1) / 2)) t))) AD (ow σ t ((low + most + 1) / 2)) n m := hC1.tskf hO.1 ht rfl rfl rfl rfl rfl rfl (fun k o e => (st1_o σ 0 t _ e).trans (st1_o σ 0 t x9 e).symm)
          have h_S := hC2.2.1.2
          refine j_aload_n hX dX5_longer_81 rfl ?_
          refine j_callV hX cv_X5_129 (c_allHave hC2 (hO.own hxm)) dX5_longer_82 h_S rfl rfl (by exact ⟨Nat.le_of_ble_eq_true rfl, Nat.le_of_ble_eq_true rfl⟩) (by exact ⟨Nat.le_of_ble_eq_true rfl, Nat.le_of_ble_eq_true rfl⟩) (by exact Nat.le_of_ble_eq_true rfl) (fun v82 h82 hp82 => ?_) rfl
          obtain ⟨⟨y82, rfl, hy82⟩, hC3, hE2⟩ := hp82
          have hy : y82 = 0 ∨ y82 = 1 := by rcases hy82 with ⟨z9, _⟩ | ⟨z9, _⟩ <;> omega
          have hE3 : ∀ a, a ≠ AD 14 → a ≠ AD (20 + 4 * t) → h82 a = h a := fun a q1 q2 => (hE2 a q1).trans ((hup_ne q2).trans (hE a q1 q2))
          have h_T := hC3.task ht
          refine j_if_eq hX 95 dX5_longer_85 (by decide) (by omega) (fun c85 => ?_) (fun c85 => ?_)
          · refine j_lload hX dX5_longer_95 rfl ?_
            refine j_lconst1 hX dX5_longer_97 ?_
            refine j_lsub hX dX5_longer_98 ?_
            refine j_lstore hX dX5_longer_99 (by decide) ?_
            refine j_iinc hX dX5_longer_101 rfl (by decide) ?_
            refine j_goto hX 44 dX5_longer_104 (by decide) ?_
            exact j_at (L' := [(0, .ref (AD 15)), (1, .int (iZ (t : Int))), (2, .ref (AD (20 + 4 * t))), (3, .long (lZ (σ 0 t))), (5, .long (lZ _)), (7, .long (lZ _)), (9, .int (iZ ((step + 1 : Nat) : Int)))]) (hjo (ih k _ _ _ (step + 1) _ (by omega) (by omega) (by omega) (by omega) (by omega) (by omega) hxm hC3 hE3 (by rw [← hs]; conv => { rhs; unfold lng }; rw [if_pos (by omega), show low + (most + 1) = low + most + 1 by omega, if_neg (by rcases hy82 with ⟨z9, _⟩ | ⟨_, z9⟩; omega; exact z9)]; congr 1; omega))) ⟨rfl, rfl, rfl, rfl, rfl, rfl, rfl, trivial⟩
          · refine j_lload hX dX5_longer_88 rfl ?_
            refine j_lstore hX dX5_longer_90 (by decide) ?_
            refine j_goto hX 101 dX5_longer_92 (by decide) ?_
            refine j_iinc hX dX5_longer_101 rfl (by decide) ?_
            refine j_goto hX 44 dX5_longer_104 (by decide) ?_
            exact j_at (L' := [(0, .ref (AD 15)), (1, .int (iZ (t : Int))), (2, .ref (AD (20 + 4 * t))), (3, .long (lZ (σ 0 t))), (5, .long (lZ _)), (7, .long (lZ _)), (9, .int (iZ ((step + 1 : Nat) : Int)))]) (hjo (ih k _ _ _ (step + 1) _ (by omega) (by omega) (by omega) (by omega) (by omega) (by omega) hxm hC3 hE3 (by rw [← hs]; conv => { rhs; unfold lng }; rw [if_pos (by omega), show low + (most + 1) = low + most + 1 by omega, if_pos (by rcases hy82 with ⟨_, z9⟩ | ⟨z9, _⟩; exact z9; omega)]))) ⟨rfl, rfl, rfl, rfl, rfl, rfl, rfl, trivial⟩
    refine hji ?_
    refine j_aload_n hX dX5_longer_0 rfl ?_
    refine j_get hX fl_X5_10_7 dX5_longer_1 h_S (by rfl) ?_
    refine j_iload_n hX dX5_longer_4 rfl ?_
    refine j_callV hX cv_X5_65 (c_taskOfT hC hO ht) dX5_longer_5 h_C rfl rfl (by exact ⟨Nat.le_of_ble_eq_true rfl, Nat.le_of_ble_eq_true rfl⟩) (by exact ⟨Nat.le_of_ble_eq_true rfl, Nat.le_of_ble_eq_true rfl⟩) (by exact Nat.le_of_ble_eq_true rfl) (fun v5 h5 hp5 => ?_) rfl
    obtain ⟨rfl, rfl⟩ := hp5
    have h_T := hC.task ht
    refine j_astore_n hX dX5_longer_8 (by decide) ?_
    refine j_aload_n hX dX5_longer_9 rfl ?_
    refine j_ifnonnull hX 17 dX5_longer_10 (by decide) ?_
    refine j_aload_n hX dX5_longer_17 rfl ?_
    refine j_callV hX cv_X5_129 (c_allHave hC hO) dX5_longer_18 h_S rfl rfl (by exact ⟨Nat.le_of_ble_eq_true rfl, Nat.le_of_ble_eq_true rfl⟩) (by exact ⟨Nat.le_of_ble_eq_true rfl, Nat.le_of_ble_eq_true rfl⟩) (by exact Nat.le_of_ble_eq_true rfl) (fun v18 h18 hp18 => ?_) rfl
    obtain ⟨⟨y18, rfl, hy18⟩, hC1, hE1⟩ := hp18
    have hy : y18 = 0 ∨ y18 = 1 := by rcases hy18 with ⟨z9, _⟩ | ⟨z9, _⟩ <;> omega
    have h_T := hC1.task ht
    have h_S := hC1.2.1.2
    refine j_if_ne hX 28 dX5_longer_21 (by decide) (by omega) (fun c21 => ?_) (fun c21 => ?_)
    · refine j_aload_n hX dX5_longer_28 rfl ?_
      refine j_get hX fl_X5_133_6 dX5_longer_29 h_T (by rfl) ?_
      refine j_lstore_n hX dX5_longer_32 (by decide) ?_
      refine j_lload_n hX dX5_longer_33 rfl ?_
      refine j_lstore hX dX5_longer_34 (by decide) ?_
      refine j_ldc2 hX k_X5_136 (z := 1000) (by decide) dX5_longer_36 ?_
      refine j_lstore hX dX5_longer_39 (by decide) ?_
      refine j_iconst hX dX5_longer_41 ?_
      refine j_istore hX dX5_longer_42 (by decide) ?_
      exact j_at (L' := [(0, .ref (AD 15)), (1, .int (iZ (t : Int))), (2, .ref (AD (20 + 4 * t))), (3, .long (lZ (σ 0 t))), (5, .long (lZ _)), (7, .long (lZ _)), (9, .int (iZ ((0 : Nat) : Int)))]) (hjo (lp (by rcases hy18 with ⟨_, z9⟩ | ⟨z9, _⟩; exact z9; omega) 1000 1001 (σ 0 t) 1000 (σ 0 t) 0 _ (by omega) rfl (by omega) (by omega) (by omega) (by omega) o0 (by rw [ow_self]; exact hC1) (fun a q1 q2 => hE1 a q1) rfl)) ⟨rfl, rfl, rfl, rfl, rfl, rfl, rfl, trivial⟩
    · refine j_ldc2 hX k_X5_97 (z := -1) (by decide) dX5_longer_24 ?_
      exact j_lret hX hR dX5_longer_27 ⟨by rw [lngF, if_pos hz1, if_neg (by rcases hy18 with ⟨z9, _⟩ | ⟨_, z9⟩; omega; exact z9)], ⟨hC1, hL.2.1.oth (fun o q1 q2 => hE1 _ (hL.1.inj (by unfold Lv; omega) (by unfold Lv; omega) (by omega))), hL.2.2.oth (hE1 _ (hL.1.inj (by unfold Lv; omega) (by unfold Lv; omega) (by omega))) (hE1 _ (hL.1.inj (by unfold Lv; omega) (by unfold Lv; omega) (by omega)))⟩, fun a q1 q2 => hE1 a (q2 14 (by unfold Lv; omega))⟩
  · refine j_aload_n hX dX5_longer_0 rfl ?_
    refine j_get hX fl_X5_10_7 dX5_longer_1 h_S (by rfl) ?_
    refine j_iload_n hX dX5_longer_4 rfl ?_
    refine j_callV hX cv_X5_65 (c_taskOfN hC hO hz hz1) dX5_longer_5 h_C rfl rfl (by exact ⟨Nat.le_of_ble_eq_true rfl, Nat.le_of_ble_eq_true rfl⟩) (by exact ⟨Nat.le_of_ble_eq_true rfl, Nat.le_of_ble_eq_true rfl⟩) (by exact Nat.le_of_ble_eq_true rfl) (fun v5 h5 hp5 => ?_) rfl
    obtain ⟨rfl, rfl⟩ := hp5
    refine j_astore_nN hX dX5_longer_8 (by decide) ?_
    refine j_aload_nN hX dX5_longer_9 rfl ?_
    refine j_ifnonnullN hX dX5_longer_10 ?_
    refine j_ldc2 hX k_X5_105 (z := -2) (by decide) dX5_longer_13 ?_
    exact j_lret hX hR dX5_longer_16 ⟨by rw [lngF, if_neg hz1], hL, Fc.rf h AD n m⟩
