/-! THE CLASS: plain -/
theorem prd_mono {ρ : Nat → Int} {t : Nat} : ∀ d : Nat, (∀ j : Nat, 1 ≤ j → j ≤ t + d → 1 ≤ ρ j) → prd ρ t ≤ prd ρ (t + d)
  | 0, _ => Int.le_refl _
  | d + 1, h => by
    have ih := prd_mono (ρ := ρ) (t := t) d (fun j j1 j2 => h j j1 (by omega))
    have hp := prd_pos (ρ := ρ) (t + d) (fun j j1 j2 => h j j1 (by omega))
    have he := h (t + d + 1) (by omega) (by omega)
    have := Int.mul_le_mul_of_nonneg_left he (show 0 ≤ prd ρ (t + d) by omega)
    show prd ρ t ≤ prd ρ (t + d) * ρ (t + d + 1)
    omega
theorem prd_le {ρ ρ' : Nat → Int} : ∀ n : Nat, (∀ j : Nat, 1 ≤ j → j ≤ n → 1 ≤ ρ j ∧ ρ j ≤ ρ' j) → prd ρ n ≤ prd ρ' n
  | 0, _ => Int.le_refl 1
  | n + 1, h => by
    have ih := prd_le n (fun j j1 j2 => h j j1 (by omega))
    have hp := prd_pos (ρ := ρ) n (fun j j1 j2 => (h j j1 (by omega)).1)
    have he := h (n + 1) (by omega) (Nat.le_refl _)
    show prd ρ n * ρ (n + 1) ≤ prd ρ' n * ρ' (n + 1)
    exact Int.mul_le_mul ih he.2 (by omega) (by omega)
theorem RUN.small {σ : St} {n m : Nat} (hO : OK n m σ) (hR : RUN σ n) : (∀ t : Nat, t ≤ n → (cyc σ t : Int) ≤ 60) ∧ ∀ t : Nat, 1 ≤ t → t ≤ n → σ 1 t ≤ 60 := by
  have hper : ∀ t : Nat, 1 ≤ t → t ≤ n → 1 ≤ σ 1 t := fun t h1 h2 => (hO.2.2.1 t h1 h2).2.1.1
  refine ⟨fun t ht => ?_, fun t h1 h2 => ?_⟩
  · have a := (cyc_b hO t ht).2
    have b := prd_mono (ρ := σ 1) (t := t) (n - t) (fun j j1 j2 => hper j j1 (by omega))
    rw [show t + (n - t) = n by omega] at b
    have := hR.2.2.1
    omega
  · obtain ⟨a, ha⟩ := prd_div n hper
    obtain ⟨b1, b2⟩ := ha t h1 h2
    have := hR.2.2.1
    have hp := hper t h1 h2
    have := Int.mul_le_mul_of_nonneg_right b2 (show 0 ≤ σ 1 t by omega)
    omega
def cS (σ : St) (n : Nat) (en : Int) (t : Nat) (k : Int) (y : Int) : Prop := ∃ k2 : Int, (0 ≤ k2 ∧ k2 < k) ∧ y = LST σ n en (phw σ n k2) t
theorem phw_b {σ : St} {n m : Nat} (hO : OK n m σ) (k : Int) : ∀ j : Nat, 1 ≤ j → j ≤ n → 0 ≤ phw σ n k j ∧ phw σ n k j < σ 1 j := by
  intro j h1 h2
  obtain ⟨-, o1, -, -, -, -, -, o7, -⟩ := hO.2.2.1 j h1 h2
  unfold phw
  rw [if_pos ⟨h1, h2⟩]
  split
  · exact ⟨Int.emod_nonneg _ (by omega), Int.emod_lt_of_pos _ (by omega)⟩
  · omega
theorem cS_all {σ : St} {n m : Nat} (hO : OK n m σ) {en : Int} {t : Nat} {y : Int} : cS σ n en t (prd (rho σ) n) y ↔ phS σ n en t y := by
  constructor
  · rintro ⟨k, hk, h2⟩
    refine ⟨phw σ n k, fun j hj => by unfold phw; rw [if_neg hj], fun j j1 j2 => ⟨phw_b hO k j j1 j2, ?_⟩, h2⟩
    unfold phw
    rw [if_pos ⟨j1, j2⟩]
    split
    · rename_i e; exact Or.inl e
    · exact Or.inr rfl
  · rintro ⟨φ, h0, h1, h2⟩
    obtain ⟨k, hk, hd⟩ := dig_all n (rho σ) (fun j => if σ 7 j = -1 then φ j else 0) (fun t t1 t2 => by
      have := h1 t t1 t2
      unfold rho
      by_cases e : σ 7 t = -1
      · rw [if_pos e, if_pos e]; exact this.1
      · rw [if_neg e, if_neg e]; omega)
    have e : phw σ n k = φ := by
      funext j
      by_cases hj : 1 ≤ j ∧ j ≤ n
      · unfold phw
        rw [if_pos hj]
        by_cases e : σ 7 j = -1
        · have := hd j hj.1 hj.2
          rw [if_pos e]
          have er : rho σ j = σ 1 j := by unfold rho; rw [if_pos e]
          rw [er, if_pos e] at this
          exact this
        · rw [if_neg e]
          rcases (h1 j hj.1 hj.2).2 with q | q
          · exact absurd q e
          · exact q
      · unfold phw; rw [if_neg hj, h0 j hj]
    exact ⟨k, hk, by rw [e]; exact h2⟩
theorem PS.ph {G : Gt} {h : hF} {AD : Nat → Nat} {kn ct en : Int} {F : St} (hP : PS G h AD kn ct en F) (hk : kn = 0 ∨ kn = 1) : PhAt G h AD := ⟨⟨kn, ct, en, hP.1, hk⟩, ⟨F 8, hP.b8⟩, fun k hk => by
  rcases hk with rfl | ⟨k1, k2⟩
  · exact ⟨F 7, hP.b7⟩
  · rcases (show k = 9 ∨ k = 10 ∨ k = 11 ∨ k = 12 ∨ k = 13 by omega) with rfl | rfl | rfl | rfl | rfl
    · exact ⟨F 9, hP.b9⟩
    · exact ⟨F 10, hP.b10⟩
    · exact ⟨F 11, hP.b11⟩
    · exact ⟨F 12, hP.b12⟩
    · exact ⟨F 13, hP.b13⟩⟩
theorem PhAt.ps {G : Gt} {h : hF} {AD : Nat → Nat} {kn ct en : Int} {f7 : Nat → Int} (hP : PhAt G h AD) (h6 : h (AD 6) = some (.inr (5, PF AD kn ct en))) (h7 : h (AD 7) = some (gJ G 3 f7)) : ∃ F : St, F 7 = f7 ∧ PS G h AD kn ct en F := by
  obtain ⟨-, ⟨f8, h8⟩, hk⟩ := hP
  obtain ⟨f9, h9⟩ := hk 9 (by omega)
  obtain ⟨f10, h10⟩ := hk 10 (by omega)
  obtain ⟨f11, h11⟩ := hk 11 (by omega)
  obtain ⟨f12, h12⟩ := hk 12 (by omega)
  obtain ⟨f13, h13⟩ := hk 13 (by omega)
  refine ⟨fun k => if k = 7 then f7 else if k = 8 then f8 else if k = 9 then f9 else if k = 10 then f10 else if k = 11 then f11 else if k = 12 then f12 else f13, rfl, h6, fun k k1 k2 => ?_⟩
  rcases (show k = 7 ∨ k = 8 ∨ k = 9 ∨ k = 10 ∨ k = 11 ∨ k = 12 ∨ k = 13 by omega) with rfl | rfl | rfl | rfl | rfl | rfl | rfl
  · exact h7
  · exact h8
  · exact h9
  · exact h10
  · exact h11
  · exact h12
  · exact h13
theorem Cr.pi {G : Gt} {h : hF} {AD : Nat → Nat} {σ : St} {n m : Nat} (hC : Cr G h AD σ n m) : PI AD := fun i j i1 i2 j1 j2 e => hC.1 i j (by unfold Lv; omega) (by unfold Lv; omega) e
set_option maxRecDepth 100000 in
set_option maxHeartbeats 4000000 in
theorem c_take {l : Launch} {G : Gt} {B : Nat} {h : hF} {AD : Nat → Nat} {σ : St} {n m : Nat} (hC : Cr G h AD σ n m) (hO : OK n m σ) (hR9 : RUN σ n) {kn ct en : Int} {F : St} (hP : PS G h AD kn ct en F) : Cv l G B yX3_take cX3_take 6 3 0 0 [.ref (AD 6), .ref (AD 1)] h (fun h' => ∃ F1 : St, PS G h' AD kn n (endT σ n) F1 ∧ Fp h h' AD ∧ STA σ n F1) := by
  refine Cv.of (by decide) (Nat.le_of_ble_eq_true rfl) ?_
  intro p e s m9 below meth c A hX hR hin
  have hn16 := hO.1
  have hm8 := hO.2.1
  have hn3 := hR9.1
  have hI9 := hC.pi
  obtain ⟨hcy, hpe⟩ := hR9.small hO
  have hF0 := Fp.rf h AD
  have h_P := hP.1
  have hTL : LsAt G h (AD 1) (AD 2) n (fun i => some (AD (24 + 4 * i))) := hC.2.2.1.keep (hF0 _ (fun k k1 k2 => hC.inj (by unfold Lv; omega) (by unfold Lv; omega) (by omega))) (fun z => hF0 _ (fun k k1 k2 => hC.inj (i := 2) (by unfold Lv; omega) (by unfold Lv; omega) (by omega)))
  have hTL9 := hTL
  obtain ⟨mcT, capT, gT, h_TL, -⟩ := hTL9
  refine J_abs (J0 := J p l e _ s m9 _ below meth c _ _ G A) ?_
  intro JX hji hjo
  have lp : ∀ (d i : Nat) (F1 : St) (h1 : hF), d + i = n → PS G h1 AD kn n en F1 → Fp h h1 AD → STA σ i F1 → JX 0 0 17 [(0, .ref (AD 6)), (1, .ref (AD 1)), (2, .long (lZ (((cyc σ i) : Nat) : Int))), (4, .int (iZ ((i : Nat) : Int)))] [] h1 := by
    intro d
    induction d with
    | zero =>
      intro i F1 h1 hd hP1 hF1 hx
      have hin : i = n := by omega
      subst hin
      have hc9 := hcy i (Nat.le_refl _)
      have h_P := hP1.1
      have h_b7 := hP1.b7
      have h_b8 := hP1.b8
      have h_b9 := hP1.b9
      have h_b10 := hP1.b10
      have h_b11 := hP1.b11
      have h_b12 := hP1.b12
      have h_b13 := hP1.b13
      refine hji ?_
      refine j_iload hX dX3_take_17 rfl ?_
      refine j_aload_n hX dX3_take_19 rfl ?_
      refine j_get hX fl_X3_34_5 dX3_take_20 h_P (by rfl) ?_
      refine j_icmp_ge hX 101 dX3_take_23 (by decide) (by omega) (by omega) (fun c23 => ?_) (fun c23 => absurd c23 (by omega))
      refine j_aload_n hX dX3_take_101 rfl ?_
      refine j_ldc2 hX k_X3_89 (z := 3) (by decide) dX3_take_102 ?_
      refine j_lload_n hX dX3_take_105 rfl ?_
      refine j_lmul hX dX3_take_106 ?_
      refine j_l2i hX dX3_take_107 (by omega) ?_
      refine j_putE hX fp_X3_91_5 dX3_take_108 h_P rfl rfl (Nat.le_of_ble_eq_true rfl) (fs2 := (PF AD kn i (endT σ i))) rfl ?_
      have hP2 := hP1.fld (kn' := kn) (ct' := i) (en' := endT σ i)
      have hF2 := hF1.up (k := 6) (by omega) (by omega) (.inr (5, PF AD kn i (endT σ i)))
      exact j_vret hX hR dX3_take_111 ⟨F1, hP2, hF2, hx⟩
    | succ d ih =>
      intro i F1 h1 hd hP1 hF1 hx
      have h_P := hP1.1
      have h_b7 := hP1.b7
      have h_b8 := hP1.b8
      have h_b9 := hP1.b9
      have h_b10 := hP1.b10
      have h_b11 := hP1.b11
      have h_b12 := hP1.b12
      have h_b13 := hP1.b13
      have hTL : LsAt G h1 (AD 1) (AD 2) n (fun i => some (AD (24 + 4 * i))) := hC.2.2.1.keep (hF1 _ (fun k k1 k2 => hC.inj (by unfold Lv; omega) (by unfold Lv; omega) (by omega))) (fun z => hF1 _ (fun k k1 k2 => hC.inj (i := 2) (by unfold Lv; omega) (by unfold Lv; omega) (by omega)))
      have hTL9 := hTL
      obtain ⟨mcT, capT, gT, h_TL, -⟩ := hTL9
      have e9 : 20 + 4 * (i + 1) = 24 + 4 * i := by omega
      have h_O : h1 (AD (20 + 4 * (i + 1))) = _ := (hF1 _ (fun k k1 k2 => hC.inj (by unfold Lv; omega) (by unfold Lv; omega) (by omega))).trans (hC.task (t := i + 1) ⟨by omega, by omega⟩)
      obtain ⟨-, p1, -⟩ := hO.2.2.1 (i + 1) (by omega) (by omega)
      have hp6 := hpe (i + 1) (by omega) (by omega)
      have hc9 := hcy i (by omega)
      have hc1 := cyc_b hO i (by omega)
      refine hji ?_
      refine j_iload hX dX3_take_17 rfl ?_
      refine j_aload_n hX dX3_take_19 rfl ?_
      refine j_get hX fl_X3_34_5 dX3_take_20 h_P (by rfl) ?_
      refine j_icmp_ge hX 101 dX3_take_23 (by decide) (by omega) (by omega) (fun c23 => absurd c23 (by omega)) (fun c23 => ?_)
      refine j_aload_n hX dX3_take_26 rfl ?_
      refine j_iload hX dX3_take_27 rfl ?_
      refine j_callV hX cv_X3_71 (c_get hTL (by omega) (i := i) (x := AD (20 + 4 * (i + 1))) (by omega) (by rw [e9])) dX3_take_29 h_TL rfl rfl (by exact ⟨Nat.le_of_ble_eq_true rfl, Nat.le_of_ble_eq_true rfl⟩) (by exact ⟨Nat.le_of_ble_eq_true rfl, Nat.le_of_ble_eq_true rfl⟩) (by exact Nat.le_of_ble_eq_true rfl) (fun v29 h29 hp29 => ?_) rfl
      obtain ⟨rfl, rfl⟩ := hp29
      refine j_castS hX ck_X3_44 dX3_take_32 h_O rfl ?_
      refine j_astore hX dX3_take_35 (by decide) ?_
      refine j_aload_n hX dX3_take_37 rfl ?_
      refine j_get hX fl_X3_15_5 dX3_take_38 h_P (by rfl) ?_
      refine j_iload hX dX3_take_41 rfl ?_
      refine j_aload hX dX3_take_43 rfl ?_
      refine j_get hX fl_X3_75_6 dX3_take_45 h_O (by rfl) ?_
      refine j_iastN hX _ rfl dX3_take_48 h_b8 (by omega) (by decide) ?_
      have hP2 := hP1.arr hI9 (k := 8) (by omega) (by omega) (zup (F1 8) i (σ 2 (i + 1)))
      have hF2 := hF1.up (k := 8) (by omega) (by omega) (gI G 3 (zup (F1 8) i (σ 2 (i + 1))))
      have h_P := hP2.1
      have h_b9 : _ = some (gJ G 3 (F1 9)) := hP2.b9
      have h_b10 : _ = some (gJ G 3 (F1 10)) := hP2.b10
      have h_b11 : _ = some (gJ G 3 (F1 11)) := hP2.b11
      have h_O := (hF2 (AD (20 + 4 * (i + 1))) (fun k k1 k2 => hC.inj (by unfold Lv; omega) (by unfold Lv; omega) (by omega))).trans (hC.task (t := i + 1) ⟨by omega, by omega⟩)
      refine j_aload_n hX dX3_take_49 rfl ?_
      refine j_get hX fl_X3_19_5 dX3_take_50 h_P (by rfl) ?_
      refine j_iload hX dX3_take_53 rfl ?_
      refine j_aload hX dX3_take_55 rfl ?_
      refine j_get hX fl_X3_77_6 dX3_take_57 h_O (by rfl) ?_
      refine j_lastN hX _ rfl dX3_take_60 h_b9 (by omega) (by decide) ?_
      have hP3 := hP2.arr hI9 (k := 9) (by omega) (by omega) (zup (F1 9) i (σ 0 (i + 1)))
      have hF3 := hF2.up (k := 9) (by omega) (by omega) (gJ G 3 (zup (F1 9) i (σ 0 (i + 1))))
      have h_P := hP3.1
      have h_b10 : _ = some (gJ G 3 (F1 10)) := hP3.b10
      have h_b11 : _ = some (gJ G 3 (F1 11)) := hP3.b11
      have h_O := (hF3 (AD (20 + 4 * (i + 1))) (fun k k1 k2 => hC.inj (by unfold Lv; omega) (by unfold Lv; omega) (by omega))).trans (hC.task (t := i + 1) ⟨by omega, by omega⟩)
      refine j_aload_n hX dX3_take_61 rfl ?_
      refine j_get hX fl_X3_22_5 dX3_take_62 h_P (by rfl) ?_
      refine j_iload hX dX3_take_65 rfl ?_
      refine j_aload hX dX3_take_67 rfl ?_
      refine j_get hX fl_X3_80_6 dX3_take_69 h_O (by rfl) ?_
      refine j_lastN hX _ rfl dX3_take_72 h_b10 (by omega) (by decide) ?_
      have hP4 := hP3.arr hI9 (k := 10) (by omega) (by omega) (zup (F1 10) i (σ 1 (i + 1)))
      have hF4 := hF3.up (k := 10) (by omega) (by omega) (gJ G 3 (zup (F1 10) i (σ 1 (i + 1))))
      have h_P := hP4.1
      have h_b11 : _ = some (gJ G 3 (F1 11)) := hP4.b11
      have h_O := (hF4 (AD (20 + 4 * (i + 1))) (fun k k1 k2 => hC.inj (by unfold Lv; omega) (by unfold Lv; omega) (by omega))).trans (hC.task (t := i + 1) ⟨by omega, by omega⟩)
      refine j_aload_n hX dX3_take_73 rfl ?_
      refine j_get hX fl_X3_25_5 dX3_take_74 h_P (by rfl) ?_
      refine j_iload hX dX3_take_77 rfl ?_
      refine j_aload hX dX3_take_79 rfl ?_
      refine j_get hX fl_X3_82_6 dX3_take_81 h_O (by rfl) ?_
      refine j_lastN hX _ rfl dX3_take_84 h_b11 (by omega) (by decide) ?_
      have hP5 := hP4.arr hI9 (k := 11) (by omega) (by omega) (zup (F1 11) i (σ 7 (i + 1)))
      have hF5 := hF4.up (k := 11) (by omega) (by omega) (gJ G 3 (zup (F1 11) i (σ 7 (i + 1))))
      have h_P := hP5.1
      have h_O := (hF5 (AD (20 + 4 * (i + 1))) (fun k k1 k2 => hC.inj (by unfold Lv; omega) (by unfold Lv; omega) (by omega))).trans (hC.task (t := i + 1) ⟨by omega, by omega⟩)
      refine j_lload_n hX dX3_take_85 rfl ?_
      refine j_aload hX dX3_take_86 rfl ?_
      refine j_get hX fl_X3_80_6 dX3_take_88 h_O (by rfl) ?_
      rw [show σ 1 (i + 1) = (((σ 1 (i + 1)).toNat : Nat) : Int) by omega]
      refine j_callS hX cs_X3_85 (c_lcmP (a := cyc σ i) (b := (σ 1 (i + 1)).toNat) (by omega) (by omega)) dX3_take_91 rfl (by exact ⟨Nat.le_of_ble_eq_true rfl, Nat.le_of_ble_eq_true rfl⟩) (by exact ⟨Nat.le_of_ble_eq_true rfl, Nat.le_of_ble_eq_true rfl⟩) (by exact Nat.le_of_ble_eq_true rfl) (fun v91 h91 hp91 => ?_) rfl
      obtain ⟨rfl, rfl⟩ := hp91
      rw [show (((σ 1 (i + 1)).toNat : Nat) : Int) = σ 1 (i + 1) by omega]
      refine j_lstore_n hX dX3_take_94 (by decide) ?_
      refine j_iinc hX dX3_take_95 rfl (by decide) ?_
      refine j_goto hX 17 dX3_take_98 (by decide) ?_
      exact j_at (L' := [(0, .ref (AD 6)), (1, .ref (AD 1)), (2, .long (lZ (((cyc σ (i + 1)) : Nat) : Int))), (4, .int (iZ (((i + 1) : Nat) : Int)))]) (hjo (ih (i + 1) _ _ (by omega) hP5 hF5 (fun j hj => by
        show zup (F1 8) i (σ 2 (i + 1)) j = _ ∧ zup (F1 9) i (σ 0 (i + 1)) j = _ ∧ zup (F1 10) i (σ 1 (i + 1)) j = _ ∧ zup (F1 11) i (σ 7 (i + 1)) j = _
        by_cases e : j = i
        · subst e; rw [zup_eq, zup_eq, zup_eq, zup_eq]; exact ⟨rfl, rfl, rfl, rfl⟩
        · rw [zup_ne e, zup_ne e, zup_ne e, zup_ne e]; exact hx j (by omega)))) ⟨rfl, rfl, rfl, rfl, trivial⟩
  refine hji ?_
  refine j_aload_n hX dX3_take_0 rfl ?_
  refine j_aload_n hX dX3_take_1 rfl ?_
  refine j_callV hX cv_X3_59 (c_size hTL) dX3_take_2 h_TL rfl rfl (by exact ⟨Nat.le_of_ble_eq_true rfl, Nat.le_of_ble_eq_true rfl⟩) (by exact ⟨Nat.le_of_ble_eq_true rfl, Nat.le_of_ble_eq_true rfl⟩) (by exact Nat.le_of_ble_eq_true rfl) (fun v2 h2 hp2 => ?_) rfl
  obtain ⟨rfl, rfl⟩ := hp2
  refine j_iconst hX dX3_take_5 ?_
  refine j_imin hX mx_X3_65.1 mx_X3_65.2.1 mx_X3_65.2.2.1 mx_X3_65.2.2.2 dX3_take_6 (by omega) (by omega) (by exact ⟨Nat.le_of_ble_eq_true rfl, Nat.le_of_ble_eq_true rfl⟩) (by exact ⟨Nat.le_of_ble_eq_true rfl, Nat.le_of_ble_eq_true rfl⟩) ?_
  have emn : (if (3 : Int) < (n : Int) then (3 : Int) else (n : Int)) = (n : Int) := if_neg (by omega)
  rw [emn]
  refine j_putE hX fp_X3_34_5 dX3_take_9 h_P rfl rfl (Nat.le_of_ble_eq_true rfl) (fs2 := (PF AD kn n en)) rfl ?_
  have hP1 := hP.fld (kn' := kn) (ct' := n) (en' := en)
  have hF1 := hF0.up (k := 6) (by omega) (by omega) (.inr (5, PF AD kn n en))
  refine j_lconst1 hX dX3_take_12 ?_
  refine j_lstore_n hX dX3_take_13 (by decide) ?_
  refine j_iconst hX dX3_take_14 ?_
  refine j_istore hX dX3_take_15 (by decide) ?_
  exact j_at (L' := [(0, .ref (AD 6)), (1, .ref (AD 1)), (2, .long (lZ (((cyc σ 0) : Nat) : Int))), (4, .int (iZ ((0 : Nat) : Int)))]) (hjo (lp n 0 F _ (by omega) hP1 hF1 (fun j hj => by omega))) ⟨rfl, rfl, rfl, rfl, trivial⟩
set_option maxRecDepth 100000 in
set_option maxHeartbeats 4000000 in
theorem c_runAll {l : Launch} {G : Gt} {B : Nat} {h : hF} {AD : Nat → Nat} {σ : St} {n m : Nat} (hC : Cr G h AD σ n m) (hO : OK n m σ) (hR9 : RUN σ n) {kn ct en : Int} {F : St} (hP : PS G h AD kn ct en F) : Cv l G B yX3_runAll cX3_runAll 6 4 0 0 [.ref (AD 6), .ref (AD 1)] h (fun h' => ∃ (en1 : Int) (F1 : St), PS G h' AD 1 n en1 F1 ∧ Fp h h' AD ∧ ∀ i : Nat, i < n → F1 7 i = plm σ n (endT σ n) (i + 1)) := by
  refine Cv.of (by decide) (Nat.le_of_ble_eq_true rfl) ?_
  intro p e s m9 below meth c A hX hR hin
  have hn16 := hO.1
  have hm8 := hO.2.1
  have hn3 := hR9.1
  have hI9 := hC.pi
  obtain ⟨hcy, hpe⟩ := hR9.small hO
  have hP6 := hR9.2.2.1
  have hF0 := Fp.rf h AD
  have h_P := hP.1
  have hTL : LsAt G h (AD 1) (AD 2) n (fun i => some (AD (24 + 4 * i))) := hC.2.2.1.keep (hF0 _ (fun k k1 k2 => hC.inj (by unfold Lv; omega) (by unfold Lv; omega) (by omega))) (fun z => hF0 _ (fun k k1 k2 => hC.inj (i := 2) (by unfold Lv; omega) (by unfold Lv; omega) (by omega)))
  have hTL9 := hTL
  obtain ⟨mcT, capT, gT, h_TL, -⟩ := hTL9
  have hrho : ∀ j : Nat, 1 ≤ j → j ≤ n → 1 ≤ rho σ j ∧ rho σ j ≤ σ 1 j := fun j j1 j2 => by obtain ⟨-, q1, -⟩ := hO.2.2.1 j j1 j2; unfold rho; split <;> omega
  have hw60 := prd_le n hrho
  have hw1 := prd_pos (ρ := rho σ) n (fun j j1 j2 => (hrho j j1 j2).1)
  have hen9 : 0 ≤ endT σ n ∧ endT σ n ≤ 180 := by have := hcy n (Nat.le_refl n); unfold endT; omega
  refine J_abs (J0 := J p l e _ s m9 _ below meth c _ _ G A) ?_
  intro JX hji hjo
  have lw : ∀ (d : Nat) (k : Int) (F1 : St) (h1 : hF), prd (rho σ) n - k ≤ (d : Int) → 0 ≤ k → k ≤ prd (rho σ) n → PS G h1 AD kn n (endT σ n) F1 → Fp h h1 AD → STA σ n F1 → (∀ i : Nat, i < n → isMax (cS σ n (endT σ n) (i + 1) k) (F1 7 i) ∧ F1 7 i ≤ 50000) → JX 0 0 60 [(0, .ref (AD 6)), (2, .long (lZ (prd (rho σ) n))), (4, .long (lZ k))] [] h1 := by
    intro d
    induction d with
    | zero =>
      intro k F1 h1 hd hk0 hk1 hP1 hF1 hS1 hx
      have h_P := hP1.1
      have h_b7 := hP1.b7
      have h_b8 := hP1.b8
      have h_b9 := hP1.b9
      have h_b10 := hP1.b10
      have h_b11 := hP1.b11
      have h_b12 := hP1.b12
      have h_b13 := hP1.b13
      refine hji ?_
      refine j_lload hX dX3_runAll_60 rfl ?_
      refine j_lload_n hX dX3_runAll_62 rfl ?_
      refine j_lcmp_ge hX 95 dX3_runAll_63 dX3_runAll_64 (by decide) (by omega) (by omega) (fun c63 => ?_) (fun c63 => absurd c63 (by omega))
      refine j_aload_n hX dX3_runAll_95 rfl ?_
      refine j_iconst hX dX3_runAll_96 ?_
      refine j_putE hX fp_X3_55_5 dX3_runAll_97 h_P rfl rfl (Nat.le_of_ble_eq_true rfl) (fs2 := (PF AD 1 n (endT σ n))) rfl ?_
      have hPz := hP1.fld (kn' := 1) (ct' := n) (en' := (endT σ n))
      have hFz := hF1.up (k := 6) (by omega) (by omega) (.inr (5, PF AD 1 n (endT σ n)))
      exact j_vret hX hR dX3_runAll_100 ⟨(endT σ n), F1, hPz, hFz, fun i hi => plm_eq ((hx i hi).1.congr (fun y => by rw [show k = prd (rho σ) n by omega]; exact cS_all hO))⟩
    | succ d ih =>
      intro k F1 h1 hd hk0 hk1 hP1 hF1 hS1 hx
      have h_P := hP1.1
      have h_b7 := hP1.b7
      have h_b8 := hP1.b8
      have h_b9 := hP1.b9
      have h_b10 := hP1.b10
      have h_b11 := hP1.b11
      have h_b12 := hP1.b12
      have h_b13 := hP1.b13
      refine hji ?_
      refine j_lload hX dX3_runAll_60 rfl ?_
      refine j_lload_n hX dX3_runAll_62 rfl ?_
      refine j_lcmp_ge hX 95 dX3_runAll_63 dX3_runAll_64 (by decide) (by omega) (by omega) (fun c63 => ?_) (fun c63 => ?_)
      · refine j_aload_n hX dX3_runAll_95 rfl ?_
        refine j_iconst hX dX3_runAll_96 ?_
        refine j_putE hX fp_X3_55_5 dX3_runAll_97 h_P rfl rfl (Nat.le_of_ble_eq_true rfl) (fs2 := (PF AD 1 n (endT σ n))) rfl ?_
        have hPz := hP1.fld (kn' := 1) (ct' := n) (en' := (endT σ n))
        have hFz := hF1.up (k := 6) (by omega) (by omega) (.inr (5, PF AD 1 n (endT σ n)))
        exact j_vret hX hR dX3_runAll_100 ⟨(endT σ n), F1, hPz, hFz, fun i hi => plm_eq ((hx i hi).1.congr (fun y => by rw [show k = prd (rho σ) n by omega]; exact cS_all hO))⟩
      · refine j_lload hX dX3_runAll_67 rfl ?_
        refine j_ldc2 hX k_X3_46 (z := 60) (by decide) dX3_runAll_69 ?_
        refine j_lcmp_ge hX 95 dX3_runAll_72 dX3_runAll_73 (by decide) (by omega) (by omega) (fun c72 => absurd c72 (by omega)) (fun c72 => ?_)
        refine j_aload_n hX dX3_runAll_76 rfl ?_
        refine j_lload hX dX3_runAll_77 rfl ?_
        refine j_callVv hX cv_X3_48 (c_startP hP1 hI9 rfl hn3 hO (k := k) ⟨hk0, by omega⟩ hS1) dX3_runAll_79 h_P rfl rfl (by exact ⟨Nat.le_of_ble_eq_true rfl, Nat.le_of_ble_eq_true rfl⟩) (by exact ⟨Nat.le_of_ble_eq_true rfl, Nat.le_of_ble_eq_true rfl⟩) (by exact Nat.le_of_ble_eq_true rfl) (fun h79 hp79 => ?_) rfl
        obtain ⟨F2, hP2, hF2, hs2, hz2⟩ := hp79
        have hS2 := hS1.keep (fun j j1 j2 => hs2 j (by omega) j2)
        have h_P := hP2.1
        refine j_aload_n hX dX3_runAll_82 rfl ?_
        refine j_callVv hX cv_X3_52 (c_run hP2 hI9 rfl hO hR9 hen9 (φ := (phw σ n k)) (M := (fun j => F1 7 (j - 1))) (phw_b hO k) (fun t t1 t2 => by have q := hx (t - 1) (by omega); exact ⟨q.1.2.1, q.2⟩) hS2 (fun i hi => ⟨(hz2 i hi).1, (hz2 i hi).2, by rw [hs2 7 (by omega) (by omega)]; rfl⟩)) dX3_runAll_83 h_P rfl rfl (by exact ⟨Nat.le_of_ble_eq_true rfl, Nat.le_of_ble_eq_true rfl⟩) (by exact ⟨Nat.le_of_ble_eq_true rfl, Nat.le_of_ble_eq_true rfl⟩) (by exact Nat.le_of_ble_eq_true rfl) (fun h83 hp83 => ?_) rfl
        obtain ⟨F3, hP3, hF3, hs3, hz3⟩ := hp83
        have hS3 := hS2.keep hs3
        have hx3 : ∀ i : Nat, i < n → isMax (cS σ n (endT σ n) (i + 1) (k + 1)) (F3 7 i) ∧ F3 7 i ≤ 50000 := fun i hi => by
          obtain ⟨q1, q2⟩ := hx i hi
          have hLb := LST_b hO (en := (endT σ n)) (φ := (phw σ n k)) (phw_b hO k) (i + 1)
          have e9 := (run_max (σ := σ) (n := n) (en := (endT σ n)) (φ := (phw σ n k)) (M := (fun j => F1 7 (j - 1))) hz).2.2 (i + 1) q1.2.1
          have e8 : F3 7 i = mx2 (F1 7 i) (LST σ n (endT σ n) (phw σ n k) (i + 1)) := (hz3 i hi).trans e9
          rw [e8]
          refine ⟨q1.un (isMax.one hLb.1) ?_ ?_ ?_ (fun y => ⟨fun ⟨k2, z1, z2⟩ => ?_, fun q => ?_⟩), ?_⟩
          · unfold mx2; split
            · exact Or.inr rfl
            · exact Or.inl rfl
          · unfold mx2; split <;> omega
          · unfold mx2; split <;> omega
          · by_cases e : k2 = k
            · subst e; exact Or.inr z2
            · exact Or.inl ⟨k2, ⟨z1.1, by omega⟩, z2⟩
          · rcases q with ⟨k2, z1, z2⟩ | q
            · exact ⟨k2, ⟨z1.1, by omega⟩, z2⟩
            · exact ⟨k, ⟨hk0, by omega⟩, q⟩
          · unfold mx2; split <;> omega
        refine j_lload hX dX3_runAll_86 rfl ?_
        refine j_lconst1 hX dX3_runAll_88 ?_
        refine j_ladd hX dX3_runAll_89 ?_
        refine j_lstore hX dX3_runAll_90 (by decide) ?_
        refine j_goto hX 60 dX3_runAll_92 (by decide) ?_
        exact j_at (L' := [(0, .ref (AD 6)), (2, .long (lZ (prd (rho σ) n))), (4, .long (lZ (k + 1)))]) (hjo (ih (k + 1) F3 _ (by omega) (by omega) (by omega) hP3 (hF1.tr (hF2.tr hF3)) hS3 hx3)) ⟨rfl, rfl, rfl, trivial⟩
  have lp : ∀ (d i : Nat) (F1 : St) (h1 : hF), d + i = n → PS G h1 AD kn n (endT σ n) F1 → Fp h h1 AD → STA σ n F1 → (∀ j : Nat, j < i → F1 7 j = 0) → JX 0 0 10 [(0, .ref (AD 6)), (2, .long (lZ (prd (rho σ) i))), (4, .int (iZ ((i : Nat) : Int)))] [] h1 := by
    intro d
    induction d with
    | zero =>
      intro i F1 h1 hd hP1 hF1 hS1 hx
      have hin : i = n := by omega
      have h_P := hP1.1
      have h_b7 := hP1.b7
      have h_b8 := hP1.b8
      have h_b9 := hP1.b9
      have h_b10 := hP1.b10
      have h_b11 := hP1.b11
      have h_b12 := hP1.b12
      have h_b13 := hP1.b13
      refine hji ?_
      refine j_iload hX dX3_runAll_10 rfl ?_
      refine j_aload_n hX dX3_runAll_12 rfl ?_
      refine j_get hX fl_X3_34_5 dX3_runAll_13 h_P (by rfl) ?_
      refine j_icmp_ge hX 57 dX3_runAll_16 (by decide) (by omega) (by omega) (fun c16 => ?_) (fun c16 => absurd c16 (by omega))
      refine j_lconst0 hX dX3_runAll_57 ?_
      refine j_lstore hX dX3_runAll_58 (by decide) ?_
      exact j_at (L' := [(0, .ref (AD 6)), (2, .long (lZ (prd (rho σ) n))), (4, .long (lZ 0))]) (hjo (lw (prd (rho σ) n).toNat 0 F1 h1 (by omega) (by omega) (by omega) hP1 hF1 hS1 (fun j hj => by rw [hx j (by omega)]; exact ⟨isMax.zero (fun y ⟨k2, z1, z2⟩ => by omega), by omega⟩))) ⟨rfl, by rw [← hin]; rfl, rfl, trivial⟩
    | succ d ih =>
      intro i F1 h1 hd hP1 hF1 hS1 hx
      have h_P := hP1.1
      have h_b7 := hP1.b7
      have h_b8 := hP1.b8
      have h_b9 := hP1.b9
      have h_b10 := hP1.b10
      have h_b11 := hP1.b11
      have h_b12 := hP1.b12
      have h_b13 := hP1.b13
      obtain ⟨s1, s2, s3, s4⟩ := hS1 i (by omega)
      obtain ⟨-, p1, -, -, -, -, -, p7, -⟩ := hO.2.2.1 (i + 1) (by omega) (by omega)
      have hrr : prd (rho σ) (i + 1) = prd (rho σ) i * (if σ 7 (i + 1) = -1 then σ 1 (i + 1) else 1) := rfl
      refine hji ?_
      refine j_iload hX dX3_runAll_10 rfl ?_
      refine j_aload_n hX dX3_runAll_12 rfl ?_
      refine j_get hX fl_X3_34_5 dX3_runAll_13 h_P (by rfl) ?_
      refine j_icmp_ge hX 57 dX3_runAll_16 (by decide) (by omega) (by omega) (fun c16 => absurd c16 (by omega)) (fun c16 => ?_)
      refine j_aload_n hX dX3_runAll_19 rfl ?_
      refine j_get hX fl_X3_9_5 dX3_runAll_20 h_P (by rfl) ?_
      refine j_iload hX dX3_runAll_23 rfl ?_
      refine j_lconst0 hX dX3_runAll_25 ?_
      refine j_lastN hX _ rfl dX3_runAll_26 h_b7 (by omega) (by decide) ?_
      have hP2 := hP1.arr hI9 (k := 7) (by omega) (by omega) (zup (F1 7) i 0)
      have hF2 := hF1.up (k := 7) (by omega) (by omega) (gJ G 3 (zup (F1 7) i 0))
      have h_P := hP2.1
      have h_b11 : _ = some (gJ G 3 (F1 11)) := hP2.b11
      have h_b10 : _ = some (gJ G 3 (F1 10)) := hP2.b10
      refine j_aload_n hX dX3_runAll_27 rfl ?_
      refine j_get hX fl_X3_25_5 dX3_runAll_28 h_P (by rfl) ?_
      refine j_iload hX dX3_runAll_31 rfl ?_
      refine j_laldN hX _ rfl dX3_runAll_33 h_b11 (by omega) (by decide) ?_
      refine j_ldc2 hX k_X3_38 (z := -1) (by decide) dX3_runAll_34 ?_
      refine j_lcmp_ne hX 51 dX3_runAll_37 dX3_runAll_38 (by decide) (by omega) (by omega) (fun c37 => ?_) (fun c37 => ?_)
      · refine j_iinc hX dX3_runAll_51 rfl (by decide) ?_
        refine j_goto hX 10 dX3_runAll_54 (by decide) ?_
        exact j_at (L' := [(0, .ref (AD 6)), (2, .long (lZ (prd (rho σ) (i + 1)))), (4, .int (iZ (((i + 1) : Nat) : Int)))]) (hjo (ih (i + 1) _ _ (by omega) hP2 hF2 (hS1.keep (fun j j1 j2 => sup_ne (by omega))) (fun j hj => by
          show zup (F1 7) i 0 j = 0
          by_cases e : j = i
          · subst e; rw [zup_eq]
          · rw [zup_ne e]; exact hx j (by omega)))) ⟨rfl, by (show some (Value.long (lZ _)) = some (Value.long (lZ _))); rw [hrr]; rw [if_neg (by omega), Int.mul_one], rfl, trivial⟩
      · refine j_lload_n hX dX3_runAll_41 rfl ?_
        refine j_aload_n hX dX3_runAll_42 rfl ?_
        refine j_get hX fl_X3_22_5 dX3_runAll_43 h_P (by rfl) ?_
        refine j_iload hX dX3_runAll_46 rfl ?_
        refine j_laldN hX _ rfl dX3_runAll_48 h_b10 (by omega) (by decide) ?_
        refine j_lmul hX dX3_runAll_49 ?_
        refine j_lstore_n hX dX3_runAll_50 (by decide) ?_
        refine j_iinc hX dX3_runAll_51 rfl (by decide) ?_
        refine j_goto hX 10 dX3_runAll_54 (by decide) ?_
        exact j_at (L' := [(0, .ref (AD 6)), (2, .long (lZ (prd (rho σ) (i + 1)))), (4, .int (iZ (((i + 1) : Nat) : Int)))]) (hjo (ih (i + 1) _ _ (by omega) hP2 hF2 (hS1.keep (fun j j1 j2 => sup_ne (by omega))) (fun j hj => by
          show zup (F1 7) i 0 j = 0
          by_cases e : j = i
          · subst e; rw [zup_eq]
          · rw [zup_ne e]; exact hx j (by omega)))) ⟨rfl, by (show some (Value.long (lZ _)) = some (Value.long (lZ _))); rw [hrr]; rw [if_pos (by omega), s3], rfl, trivial⟩
  refine hji ?_
  refine j_aload_n hX dX3_runAll_0 rfl ?_
  refine j_aload_n hX dX3_runAll_1 rfl ?_
  refine j_callVv hX cv_X3_40 (c_take hC hO hR9 hP) dX3_runAll_2 h_P rfl rfl (by exact ⟨Nat.le_of_ble_eq_true rfl, Nat.le_of_ble_eq_true rfl⟩) (by exact ⟨Nat.le_of_ble_eq_true rfl, Nat.le_of_ble_eq_true rfl⟩) (by exact Nat.le_of_ble_eq_true rfl) (fun h2 hp2 => ?_) rfl
  obtain ⟨F1, hP1, hF1, hS1⟩ := hp2
  have h_P := hP1.1
  refine j_lconst1 hX dX3_runAll_5 ?_
  refine j_lstore_n hX dX3_runAll_6 (by decide) ?_
  refine j_iconst hX dX3_runAll_7 ?_
  refine j_istore hX dX3_runAll_8 (by decide) ?_
  exact j_at (L' := [(0, .ref (AD 6)), (2, .long (lZ (prd (rho σ) 0))), (4, .int (iZ ((0 : Nat) : Int)))]) (hjo (lp n 0 F1 _ (by omega) hP1 hF1 hS1 (fun j hj => by omega))) ⟨rfl, rfl, rfl, trivial⟩
