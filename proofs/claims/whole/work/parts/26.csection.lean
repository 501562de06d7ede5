/-! THE CLASS: section -/
theorem TF_8 (AD : Nat → Nat) (σ : St) (t : Nat) (x : Int) : (TF AD σ t).set 11 (.int (iZ x)) = TF AD (st1 σ 8 t x) t := by
  have e : st1 σ 8 t x 8 t = x := by rw [st1_at, if_pos ⟨rfl, rfl⟩]
  have e2 : TF AD (st1 σ 8 t x) t = (TF AD σ t).set 11 (.int (iZ (st1 σ 8 t x 8 t))) := rfl
  rw [e2, e]
set_option maxRecDepth 100000 in
set_option maxHeartbeats 4000000 in
theorem c_addSection {l : Launch} {G : Gt} {B : Nat} {h : hF} {AD : Nat → Nat} {σ : St} {n m : Nat} (hC : Cr G h AD σ n m) (hO : OK n m σ) {t : Nat} (ht : 1 ≤ t ∧ t ≤ n) (hs : σ 8 t < 10) {f9 g9 : Nat → Int} (h_RE : h (AD (21 + 4 * t)) = some (gI G 10 f9)) (h_LE : h (AD (22 + 4 * t)) = some (gJ G 10 g9)) {r len : Int} : Cv l G B yX4_addSection cX4_addSection 4 0 0 0 [.ref (AD (20 + 4 * t)), .int (iZ r), .long (lZ len)] h (fun h' => h' = (hup (hup (hup h (AD (21 + 4 * t)) (gI G 10 (zup f9 (σ 8 t).toNat r))) (AD (22 + 4 * t)) (gJ G 10 (zup g9 (σ 8 t).toNat len))) (AD (20 + 4 * t)) (.inr (6, TF AD (st1 σ 8 t (σ 8 t + 1)) t)))) := by
  refine Cv.of (by decide) (Nat.le_of_ble_eq_true rfl) ?_
  intro p e s m9 below meth c A hX hR hin
  obtain ⟨o0, o1, o2, o3, o4, o5, o6, o7, o8, o9⟩ := hO.2.2.1 t ht.1 ht.2
  have h_T := hC.task ht
  have hi9 : (σ 8 t) = ((σ 8 t).toNat : Int) := by omega
  refine j_aload_n hX dX4_addSection_0 rfl ?_
  refine j_get hX fl_X4_38_6 dX4_addSection_1 h_T (by rfl) ?_
  refine j_bipush hX dX4_addSection_4 (by decide) ?_
  refine j_icmp_ge hX 39 dX4_addSection_6 (by decide) (by omega) (by omega) (fun c6 => absurd c6 (by omega)) (fun c6 => ?_)
  refine j_aload_n hX dX4_addSection_9 rfl ?_
  refine j_get hX fl_X4_9_6 dX4_addSection_10 h_T (by rfl) ?_
  refine j_aload_n hX dX4_addSection_13 rfl ?_
  refine j_get hX fl_X4_38_6 dX4_addSection_14 h_T (by rfl) ?_
  refine j_iload_n hX dX4_addSection_17 rfl ?_
  refine j_iastN hX (σ 8 t).toNat hi9 dX4_addSection_18 h_RE (by omega) (by decide) ?_
  have h_T : (hup h (AD (21 + 4 * t)) (gI G 10 (zup f9 (σ 8 t).toNat r))) (AD (20 + 4 * t)) = _ := ((hup_ne (hC.inj (by unfold Lv; omega) (by unfold Lv; omega) (by omega)))).trans h_T
  have h_LE : (hup h (AD (21 + 4 * t)) (gI G 10 (zup f9 (σ 8 t).toNat r))) (AD (22 + 4 * t)) = _ := ((hup_ne (hC.inj (by unfold Lv; omega) (by unfold Lv; omega) (by omega)))).trans h_LE
  refine j_aload_n hX dX4_addSection_19 rfl ?_
  refine j_get hX fl_X4_15_6 dX4_addSection_20 h_T (by rfl) ?_
  refine j_aload_n hX dX4_addSection_23 rfl ?_
  refine j_get hX fl_X4_38_6 dX4_addSection_24 h_T (by rfl) ?_
  refine j_lload_n hX dX4_addSection_27 rfl ?_
  refine j_lastN hX (σ 8 t).toNat hi9 dX4_addSection_28 h_LE (by omega) (by decide) ?_
  have h_T : (hup (hup h (AD (21 + 4 * t)) (gI G 10 (zup f9 (σ 8 t).toNat r))) (AD (22 + 4 * t)) (gJ G 10 (zup g9 (σ 8 t).toNat len))) (AD (20 + 4 * t)) = _ := ((hup_ne (hC.inj (by unfold Lv; omega) (by unfold Lv; omega) (by omega)))).trans h_T
  refine j_aload_n hX dX4_addSection_29 rfl ?_
  refine j_dup hX dX4_addSection_30 rfl ?_
  refine j_get hX fl_X4_38_6 dX4_addSection_31 h_T (by rfl) ?_
  refine j_iconst hX dX4_addSection_34 ?_
  refine j_iadd hX dX4_addSection_35 ?_
  refine j_putE hX fp_X4_38_6 dX4_addSection_36 h_T rfl rfl (Nat.le_of_ble_eq_true rfl) (fs2 := (TF AD (st1 σ 8 t (σ 8 t + 1)) t)) (TF_8 AD σ t _) ?_
  exact j_vret hX hR dX4_addSection_39 rfl
set_option maxRecDepth 100000 in
set_option maxHeartbeats 4000000 in
theorem c_raise {l : Launch} {G : Gt} {B : Nat} {h : hF} {a5 x1 x3 : Nat} {b : Nat} {cf : Nat → Int} (h_C : h b = some (.inr (2, [.ref x1, .ref x3, .ref a5]))) (h_CE : h a5 = some (gI G 33 cf)) {r : Nat} (hr : r < 33) (hc : -1 ≤ cf r ∧ cf r ≤ 255) {k : Int} (hk : 0 ≤ k ∧ k ≤ 255) : Cv l G B yX0_raiseCeiling cX0_raiseCeiling 3 1 0 0 [.ref b, .int (iZ (r : Int)), .int (iZ k)] h (fun h' => h' = hup h a5 (gI G 33 (zup cf r (if cf r < k then k else cf r)))) := by
  refine Cv.of (by decide) (Nat.le_of_ble_eq_true rfl) ?_
  intro p e s m9 below meth c A hX hR hin
  refine j_iload_n hX dX0_raiseCeiling_0 rfl ?_
  refine j_if_lt hX 29 dX0_raiseCeiling_1 (by decide) (by omega) (fun c1 => absurd c1 (by omega)) (fun c1 => ?_)
  refine j_iload_n hX dX0_raiseCeiling_4 rfl ?_
  refine j_aload_n hX dX0_raiseCeiling_5 rfl ?_
  refine j_get hX fl_X0_21_2 dX0_raiseCeiling_6 h_C (by rfl) ?_
  refine j_alenI hX dX0_raiseCeiling_9 h_CE ?_
  refine j_icmp_ge hX 29 dX0_raiseCeiling_10 (by decide) (by omega) (by omega) (fun c10 => absurd c10 (by omega)) (fun c10 => ?_)
  refine j_aload_n hX dX0_raiseCeiling_13 rfl ?_
  refine j_get hX fl_X0_21_2 dX0_raiseCeiling_14 h_C (by rfl) ?_
  refine j_iload_n hX dX0_raiseCeiling_17 rfl ?_
  refine j_aload_n hX dX0_raiseCeiling_18 rfl ?_
  refine j_get hX fl_X0_21_2 dX0_raiseCeiling_19 h_C (by rfl) ?_
  refine j_iload_n hX dX0_raiseCeiling_22 rfl ?_
  refine j_ialdN hX _ rfl dX0_raiseCeiling_23 h_CE (by omega) (by decide) ?_
  refine j_iload_n hX dX0_raiseCeiling_24 rfl ?_
  refine j_imax hX mx_X0_35.1 mx_X0_35.2.1 mx_X0_35.2.2.1 mx_X0_35.2.2.2 dX0_raiseCeiling_25 (by omega) (by omega) (by exact ⟨Nat.le_of_ble_eq_true rfl, Nat.le_of_ble_eq_true rfl⟩) (by exact ⟨Nat.le_of_ble_eq_true rfl, Nat.le_of_ble_eq_true rfl⟩) ?_
  refine j_iastN hX _ rfl dX0_raiseCeiling_28 h_CE (by omega) (by decide) ?_
  exact j_vret hX hR dX0_raiseCeiling_29 rfl
theorem ix_inj {o t j s : Nat} (ho : 1 ≤ o) (ht : 1 ≤ t) (hj : j < 10) (hs : s < 10) (e : 10 * o - 10 + j = 10 * t - 10 + s) : o = t ∧ j = s := by omega
theorem reach_sec {σ : St} {n m t : Nat} (hO : OK n m σ) (ht : 1 ≤ t ∧ t ≤ n) (hs : σ 8 t < 10) {r len r' k : Int} : reach (st1 (st1 (st1 σ 9 (10 * t - 10 + (σ 8 t).toNat) r) 10 (10 * t - 10 + (σ 8 t).toNat) len) 8 t (σ 8 t + 1)) n r' k ↔ reach σ n r' k ∨ (r' = r ∧ k ≤ σ 2 t) := by
  have h8t := (hO.2.2.1 t ht.1 ht.2).2.2.2.2.2.2.2.2.1
  have e8 : ∀ o : Nat, (st1 (st1 (st1 σ 9 (10 * t - 10 + (σ 8 t).toNat) r) 10 (10 * t - 10 + (σ 8 t).toNat) len) 8 t (σ 8 t + 1)) 8 o = if o = t then σ 8 t + 1 else σ 8 o := fun o => by
    rw [st1_at]
    by_cases e : o = t
    · rw [if_pos ⟨rfl, e⟩, if_pos e]
    · rw [if_neg (fun z => e z.2), if_neg e]; rfl
  have e9 : ∀ i : Nat, (st1 (st1 (st1 σ 9 (10 * t - 10 + (σ 8 t).toNat) r) 10 (10 * t - 10 + (σ 8 t).toNat) len) 8 t (σ 8 t + 1)) 9 i = if i = 10 * t - 10 + (σ 8 t).toNat then r else σ 9 i := fun i => rfl
  have e2 : (st1 (st1 (st1 σ 9 (10 * t - 10 + (σ 8 t).toNat) r) 10 (10 * t - 10 + (σ 8 t).toNat) len) 8 t (σ 8 t + 1)) 2 = σ 2 := rfl
  generalize (st1 (st1 (st1 σ 9 (10 * t - 10 + (σ 8 t).toNat) r) 10 (10 * t - 10 + (σ 8 t).toNat) len) 8 t (σ 8 t + 1)) = τ at *
  constructor
  · rintro ⟨o, j, h1, h2, h3, h4, h5⟩
    rw [e8] at h3
    rw [e9] at h5
    rw [e2] at h4
    have h8o := (hO.2.2.1 o h1 h2).2.2.2.2.2.2.2.2.1
    by_cases q : 10 * o - 10 + j = 10 * t - 10 + (σ 8 t).toNat
    · rw [if_pos q] at h5
      obtain ⟨q1, q2⟩ := ix_inj h1 ht.1 (by split at h3 <;> omega) (by omega) q
      subst q1
      exact Or.inr ⟨h5.symm, h4⟩
    · rw [if_neg q] at h5
      refine Or.inl ⟨o, j, h1, h2, ?_, h4, h5⟩
      by_cases e : o = t
      · subst e
        rw [if_pos rfl] at h3
        have : j ≠ (σ 8 o).toNat := fun z => q (by rw [z])
        omega
      · rw [if_neg e] at h3; exact h3
  · rintro (⟨o, j, h1, h2, h3, h4, h5⟩ | ⟨h5, h4⟩)
    · have h8o := (hO.2.2.1 o h1 h2).2.2.2.2.2.2.2.2.1
      refine ⟨o, j, h1, h2, ?_, by rw [e2]; exact h4, ?_⟩
      · rw [e8]; split
        · rename_i e; subst e; omega
        · exact h3
      · rw [e9, if_neg]; exact h5
        intro q
        obtain ⟨q1, q2⟩ := ix_inj h1 ht.1 (by omega) (by omega) q
        subst q1; omega
    · refine ⟨t, (σ 8 t).toNat, ht.1, ht.2, ?_, by rw [e2]; exact h4, ?_⟩
      · rw [e8, if_pos rfl]; omega
      · rw [e9, if_pos rfl]; exact h5.symm
theorem Cr.sec {G : Gt} {h : hF} {AD : Nat → Nat} {σ : St} {n m : Nat} (hC : Cr G h AD σ n m) (hO : OK n m σ) {t : Nat} (ht : 1 ≤ t ∧ t ≤ n) (hs : σ 8 t < 10) {r : Nat} (hr : r < 33) {len : Int} {f9 g9 cf : Nat → Int} (hf9 : h (AD (21 + 4 * t)) = some (gI G 10 f9)) (hg9 : h (AD (22 + 4 * t)) = some (gJ G 10 g9)) (hf9' : ∀ j : Nat, (j : Int) < σ 8 t → f9 j = σ 9 (10 * t - 10 + j)) (hg9' : ∀ j : Nat, (j : Int) < σ 8 t → g9 j = σ 10 (10 * t - 10 + j)) (hcf : ∀ r : Nat, r < 33 → (-1 ≤ cf r ∧ cf r ≤ 255) ∧ ∀ k : Int, 0 ≤ k → (k ≤ cf r ↔ reach σ n r k)) :
    Cr G (hup (hup (hup (hup h (AD (21 + 4 * t)) (gI G 10 (zup f9 (σ 8 t).toNat r))) (AD (22 + 4 * t)) (gJ G 10 (zup g9 (σ 8 t).toNat len))) (AD (20 + 4 * t)) (.inr (6, TF AD (st1 σ 8 t (σ 8 t + 1)) t))) (AD 5) (gI G 33 (zup cf r (if cf r < σ 2 t then σ 2 t else cf r)))) AD (st1 (st1 (st1 σ 9 (10 * t - 10 + (σ 8 t).toNat) r) 10 (10 * t - 10 + (σ 8 t).toNat) len) 8 t (σ 8 t + 1)) n m := by
  have hn16 := hO.1
  have h8t := (hO.2.2.1 t ht.1 ht.2).2.2.2.2.2.2.2.2.1
  have h2t := (hO.2.2.1 t ht.1 ht.2).2.2.1
  have hrs := fun r' k => reach_sec hO ht hs (r := (r : Int)) (len := len) (r' := r') (k := k)
  have l0 : Lv n m (20 + 4 * t) := by unfold Lv; omega
  have l1 : Lv n m (21 + 4 * t) := by unfold Lv; omega
  have l2 : Lv n m (22 + 4 * t) := by unfold Lv; omega
  have l5 : Lv n m 5 := by unfold Lv; omega
  generalize hh : (hup (hup (hup (hup h (AD (21 + 4 * t)) (gI G 10 (zup f9 (σ 8 t).toNat r))) (AD (22 + 4 * t)) (gJ G 10 (zup g9 (σ 8 t).toNat len))) (AD (20 + 4 * t)) (.inr (6, TF AD (st1 σ 8 t (σ 8 t + 1)) t))) (AD 5) (gI G 33 (zup cf r (if cf r < σ 2 t then σ 2 t else cf r)))) = h'
  have ne : ∀ j : Nat, Lv n m j → j ≠ 5 → j ≠ 20 + 4 * t → j ≠ 21 + 4 * t → j ≠ 22 + 4 * t → h' (AD j) = h (AD j) := fun j hj e1 e2 e3 e4 => by
    rw [← hh, hup_ne (hC.inj hj l5 e1), hup_ne (hC.inj hj l0 e2), hup_ne (hC.inj hj l2 e4), hup_ne (hC.inj hj l1 e3)]
  have v5 : h' (AD 5) = some (gI G 33 (zup cf r (if cf r < σ 2 t then σ 2 t else cf r))) := by rw [← hh]; exact hup_eq _ _ _
  have v0 : h' (AD (20 + 4 * t)) = some (.inr (6, TF AD (st1 σ 8 t (σ 8 t + 1)) t)) := by rw [← hh, hup_ne (hC.inj l0 l5 (by omega))]; exact hup_eq _ _ _
  have v2 : h' (AD (22 + 4 * t)) = some (gJ G 10 (zup g9 (σ 8 t).toNat len)) := by rw [← hh, hup_ne (hC.inj l2 l5 (by omega)), hup_ne (hC.inj l2 l0 (by omega))]; exact hup_eq _ _ _
  have v1 : h' (AD (21 + 4 * t)) = some (gI G 10 (zup f9 (σ 8 t).toNat r)) := by rw [← hh, hup_ne (hC.inj l1 l5 (by omega)), hup_ne (hC.inj l1 l0 (by omega)), hup_ne (hC.inj l1 l2 (by omega))]; exact hup_eq _ _ _
  clear hh
  obtain ⟨c1, ⟨c2, c3⟩, c4, c5, c6, c7, c8, c9, c10⟩ := hC
  refine ⟨c1, ⟨?_, ?_⟩, ?_, ?_, ?_, ?_, ?_, ?_, ?_⟩
  · rw [ne 0 (by unfold Lv; omega) (by omega) (by omega) (by omega) (by omega)]; exact c2
  · rw [ne 15 (by unfold Lv; omega) (by omega) (by omega) (by omega) (by omega)]; exact c3
  · exact c4.keep (ne 1 (by unfold Lv; omega) (by omega) (by omega) (by omega) (by omega)) (fun z => ne 2 (by unfold Lv; omega) (by omega) (by omega) (by omega) (by omega))
  · exact c5.keep (ne 3 (by unfold Lv; omega) (by omega) (by omega) (by omega) (by omega)) (fun z => ne 4 (by unfold Lv; omega) (by omega) (by omega) (by omega) (by omega))
  · refine ⟨_, v5, fun r' hr' => ?_⟩
    obtain ⟨b1, b2⟩ := hcf r' hr'
    constructor
    · unfold zup
      split
      · rename_i e; subst e; split <;> omega
      · exact b1
    · intro k hk
      rw [hrs, ← b2 k hk]
      unfold zup
      by_cases e : r' = r
      · subst e
        rw [if_pos rfl]
        constructor
        · intro z
          split at z
          · exact Or.inr ⟨rfl, z⟩
          · exact Or.inl z
        · rintro (z | ⟨-, z⟩)
          · split <;> omega
          · split <;> omega
      · rw [if_neg e]
        constructor
        · exact Or.inl
        · rintro (z | ⟨z, -⟩)
          · exact z
          · exact absurd (by omega) e
  · intro o h1 h2
    by_cases e : o = t
    · subst e
      obtain ⟨t1, -, -, x1, x2, x3, x4, x5, x6⟩ := c7 o h1 h2
      have e8 : (st1 (st1 (st1 σ 9 (10 * o - 10 + (σ 8 o).toNat) r) 10 (10 * o - 10 + (σ 8 o).toNat) len) 8 o (σ 8 o + 1)) 8 o = σ 8 o + 1 := by rw [st1_at, if_pos ⟨rfl, rfl⟩]
      refine ⟨?_, ⟨_, v1, fun j hj => ?_⟩, ⟨_, v2, fun j hj => ?_⟩, x1, x2, x3, x4, (ne _ (by unfold Lv; omega) (by omega) (by omega) (by omega) (by omega)).trans x5, x6⟩
      · rw [v0]
        have q8 : (st1 σ 8 o (σ 8 o + 1)) 8 o = σ 8 o + 1 := by rw [st1_at, if_pos ⟨rfl, rfl⟩]
        have q1 : TF AD (st1 (st1 (st1 σ 9 (10 * o - 10 + (σ 8 o).toNat) r) 10 (10 * o - 10 + (σ 8 o).toNat) len) 8 o (σ 8 o + 1)) o = (TF AD σ o).set 11 (.int (iZ ((st1 (st1 (st1 σ 9 (10 * o - 10 + (σ 8 o).toNat) r) 10 (10 * o - 10 + (σ 8 o).toNat) len) 8 o (σ 8 o + 1)) 8 o))) := rfl
        have q2 : TF AD (st1 σ 8 o (σ 8 o + 1)) o = (TF AD σ o).set 11 (.int (iZ ((st1 σ 8 o (σ 8 o + 1)) 8 o))) := rfl
        rw [q1, q2, e8, q8]
      · rw [e8] at hj
        show zup f9 (σ 8 o).toNat r j = if 10 * o - 10 + j = 10 * o - 10 + (σ 8 o).toNat then (r : Int) else σ 9 (10 * o - 10 + j)
        unfold zup
        by_cases e2 : j = (σ 8 o).toNat
        · rw [if_pos e2, if_pos (by omega)]
        · rw [if_neg e2, if_neg (by omega)]; exact hf9' j (by omega)
      · rw [e8] at hj
        show zup g9 (σ 8 o).toNat len j = if 10 * o - 10 + j = 10 * o - 10 + (σ 8 o).toNat then len else σ 10 (10 * o - 10 + j)
        unfold zup
        by_cases e2 : j = (σ 8 o).toNat
        · rw [if_pos e2, if_pos (by omega)]
        · rw [if_neg e2, if_neg (by omega)]; exact hg9' j (by omega)
    · obtain ⟨t1, ⟨f, f1, f2⟩, ⟨g, g1, g2⟩, x1, x2, x3, x4, x5, x6⟩ := c7 o h1 h2
      have h8o := (hO.2.2.1 o h1 h2).2.2.2.2.2.2.2.2.1
      have e8 : (st1 (st1 (st1 σ 9 (10 * t - 10 + (σ 8 t).toNat) r) 10 (10 * t - 10 + (σ 8 t).toNat) len) 8 t (σ 8 t + 1)) 8 o = σ 8 o := st1_o _ 8 t _ e
      refine ⟨?_, ⟨f, (ne _ (by unfold Lv; omega) (by omega) (by omega) (by omega) (by omega)).trans f1, fun j hj => ?_⟩, ⟨g, (ne _ (by unfold Lv; omega) (by omega) (by omega) (by omega) (by omega)).trans g1, fun j hj => ?_⟩, x1, x2, x3, x4, (ne _ (by unfold Lv; omega) (by omega) (by omega) (by omega) (by omega)).trans x5, x6⟩
      · rw [ne _ (by unfold Lv; omega) (by omega) (by omega) (by omega) (by omega), t1]
        have q1 : TF AD (st1 (st1 (st1 σ 9 (10 * t - 10 + (σ 8 t).toNat) r) 10 (10 * t - 10 + (σ 8 t).toNat) len) 8 t (σ 8 t + 1)) o = (TF AD σ o).set 11 (.int (iZ ((st1 (st1 (st1 σ 9 (10 * t - 10 + (σ 8 t).toNat) r) 10 (10 * t - 10 + (σ 8 t).toNat) len) 8 t (σ 8 t + 1)) 8 o))) := rfl
        rw [q1, e8]; rfl
      · rw [e8] at hj
        rw [f2 j hj]
        show σ 9 (10 * o - 10 + j) = if 10 * o - 10 + j = 10 * t - 10 + (σ 8 t).toNat then (r : Int) else σ 9 (10 * o - 10 + j)
        rw [if_neg (by omega)]
      · rw [e8] at hj
        rw [g2 j hj]
        show σ 10 (10 * o - 10 + j) = if 10 * o - 10 + j = 10 * t - 10 + (σ 8 t).toNat then len else σ 10 (10 * o - 10 + j)
        rw [if_neg (by omega)]
  · intro i h1 h2
    rw [ne _ (by unfold Lv; omega) (by omega) (by omega) (by omega) (by omega)]; exact c8 i h1 h2
  · obtain ⟨⟨kn, ct, en, p1, p2⟩, ⟨f, f1⟩, p3⟩ := c9
    refine ⟨⟨kn, ct, en, (ne 6 (by unfold Lv; omega) (by omega) (by omega) (by omega) (by omega)).trans p1, p2⟩, ⟨f, (ne 8 (by unfold Lv; omega) (by omega) (by omega) (by omega) (by omega)).trans f1⟩, fun j hj => ?_⟩
    obtain ⟨f, f1⟩ := p3 j hj
    exact ⟨f, (ne j (by unfold Lv; omega) (by omega) (by omega) (by omega) (by omega)).trans f1⟩
  · obtain ⟨x1, x2, x3, x4, x5, x6⟩ := c10
    exact ⟨x1, x2, x3, x4, (ne _ (by unfold Lv; omega) (by omega) (by omega) (by omega) (by omega)).trans x5, x6⟩
set_option maxRecDepth 100000 in
set_option maxHeartbeats 4000000 in
theorem c_section {l : Launch} {G : Gt} {B : Nat} {h : hF} {AD : Nat → Nat} {σ : St} {n m : Nat} (hL : Cl G h AD σ n m) (hO : OK n m σ) {z : Int} (hz : -2147483648 ≤ z ∧ z < 2147483648) {y : Int} (hy9 : -2147483648 ≤ y ∧ y < 2147483648) {x : Int} (hx9 : -9223372036854775808 ≤ x ∧ x < 9223372036854775808) : Ct l G B yX5_section cX5_section 6 (some .int) 4 0 0 [.ref (AD 15), .int (iZ z), .int (iZ y), .long (lZ x)] h (fun v h' => v = .int (iZ (secR σ n z y x)) ∧ Cl G h' AD (secS σ n z y x) n m ∧ Fc h h' AD n m) := by
  refine Ct.of (by decide) (Nat.le_of_ble_eq_true rfl) ?_
  intro p e s m9 below meth c A hX hR hin
  have hC := hL.1
  have hn16 := hO.1
  have hm8 := hO.2.1
  have h_C := hC.2.1.1
  have hTL := hC.2.2.1
  have hIL := hC.2.2.2.1
  have hTL9 := hTL
  obtain ⟨mcT, capT, gT, h_TL, -⟩ := hTL9
  have hIL9 := hIL
  obtain ⟨mcI, capI, gI9, h_IL, -⟩ := hIL9
  have h_S := hC.2.1.2
  by_cases hz1 : 1 ≤ z ∧ z ≤ (n : Int)
  · obtain ⟨t, rfl⟩ : ∃ t : Nat, z = (t : Int) := ⟨z.toNat, by omega⟩
    have ht : 1 ≤ t ∧ t ≤ n := by omega
    have htn : (t : Int).toNat = t := rfl
    obtain ⟨-, -, o2, -, -, -, -, -, o8, -⟩ := hO.2.2.1 t ht.1 ht.2
    refine j_aload_n hX dX5_section_0 rfl ?_
    refine j_get hX fl_X5_10_7 dX5_section_1 h_S (by rfl) ?_
    refine j_iload_n hX dX5_section_4 rfl ?_
    refine j_callV hX cv_X5_65 (c_taskOfT hC hO ht) dX5_section_5 h_C rfl rfl (by exact ⟨Nat.le_of_ble_eq_true rfl, Nat.le_of_ble_eq_true rfl⟩) (by exact ⟨Nat.le_of_ble_eq_true rfl, Nat.le_of_ble_eq_true rfl⟩) (by exact Nat.le_of_ble_eq_true rfl) (fun v5 h5 hp5 => ?_) rfl
    obtain ⟨rfl, rfl⟩ := hp5
    have h_T := hC.task ht
    refine j_astore hX dX5_section_8 (by decide) ?_
    refine j_aload hX dX5_section_10 rfl ?_
    refine j_ifnonnull hX 17 dX5_section_12 (by decide) ?_
    refine j_iload_n hX dX5_section_17 rfl ?_
    refine j_iconst hX dX5_section_18 ?_
    refine j_icmp_lt hX 35 dX5_section_19 (by decide) (by omega) (by omega) (fun c19 => ?_) (fun c19 => ?_)
    · refine j_bipush hX dX5_section_35 (by decide) ?_
      exact j_iret hX hR dX5_section_37 ⟨by rw [secR, if_pos hz1, if_neg (by omega)], by rw [secS, if_neg (by omega)]; exact hL, Fc.rf h AD n m⟩
    · refine j_iload_n hX dX5_section_22 rfl ?_
      refine j_bipush hX dX5_section_23 (by decide) ?_
      refine j_icmp_gt hX 35 dX5_section_25 (by decide) (by omega) (by omega) (fun c25 => ?_) (fun c25 => ?_)
      · refine j_bipush hX dX5_section_35 (by decide) ?_
        exact j_iret hX hR dX5_section_37 ⟨by rw [secR, if_pos hz1, if_neg (by omega)], by rw [secS, if_neg (by omega)]; exact hL, Fc.rf h AD n m⟩
      · refine j_lload_n hX dX5_section_28 rfl ?_
        refine j_callS hX cs_X5_30 (c_isLength (by omega)) dX5_section_29 rfl (by exact ⟨Nat.le_of_ble_eq_true rfl, Nat.le_of_ble_eq_true rfl⟩) (by exact ⟨Nat.le_of_ble_eq_true rfl, Nat.le_of_ble_eq_true rfl⟩) (by exact Nat.le_of_ble_eq_true rfl) (fun v29 h29 hp29 => ?_) rfl
        obtain ⟨⟨y29, rfl, hy29⟩, rfl⟩ := hp29
        refine j_if_ne hX 38 dX5_section_32 (by decide) (by omega) (fun c32 => ?_) (fun c32 => ?_)
        · refine j_aload hX dX5_section_38 rfl ?_
          refine j_get hX fl_X5_83_6 dX5_section_40 h_T (by rfl) ?_
          refine j_bipush hX dX5_section_43 (by decide) ?_
          refine j_icmp_lt hX 51 dX5_section_45 (by decide) (by omega) (by omega) (fun c45 => ?_) (fun c45 => ?_)
          · refine j_aload hX dX5_section_51 rfl ?_
            refine j_iload_n hX dX5_section_53 rfl ?_
            refine j_lload_n hX dX5_section_54 rfl ?_
            obtain ⟨yn, rfl⟩ : ∃ yn : Nat, y = (yn : Int) := ⟨y.toNat, by omega⟩
            obtain ⟨-, ⟨f9, hf9, hf9b⟩, ⟨g9, hg9, hg9b⟩, -⟩ := hC.2.2.2.2.2.1 t ht.1 ht.2
            obtain ⟨cf, hcf, hcfb⟩ := hC.2.2.2.2.1
            obtain ⟨hcr1, -⟩ := hcfb yn (by omega)
            refine j_callVv hX cv_X5_86 (c_addSection hC hO ht (by omega) hf9 hg9) dX5_section_55 h_T rfl rfl (by exact ⟨Nat.le_of_ble_eq_true rfl, Nat.le_of_ble_eq_true rfl⟩) (by exact ⟨Nat.le_of_ble_eq_true rfl, Nat.le_of_ble_eq_true rfl⟩) (by exact Nat.le_of_ble_eq_true rfl) (fun h55 hp55 => ?_) rfl
            subst hp55
            have h_T : (hup (hup (hup h (AD (21 + 4 * t)) (gI G 10 (zup f9 (σ 8 t).toNat (yn : Int)))) (AD (22 + 4 * t)) (gJ G 10 (zup g9 (σ 8 t).toNat x))) (AD (20 + 4 * t)) (.inr (6, TF AD (st1 σ 8 t (σ 8 t + 1)) t))) (AD (20 + 4 * t)) = some (.inr (6, TF AD (st1 σ 8 t (σ 8 t + 1)) t)) := hup_eq _ _ _
            have q0 : ∀ j : Nat, Lv n m j → j ≠ 20 + 4 * t → j ≠ 21 + 4 * t → j ≠ 22 + 4 * t → (hup (hup (hup h (AD (21 + 4 * t)) (gI G 10 (zup f9 (σ 8 t).toNat (yn : Int)))) (AD (22 + 4 * t)) (gJ G 10 (zup g9 (σ 8 t).toNat x))) (AD (20 + 4 * t)) (.inr (6, TF AD (st1 σ 8 t (σ 8 t + 1)) t))) (AD j) = h (AD j) := fun j hj e1 e2 e3 => by rw [hup_ne (hC.inj hj (by unfold Lv; omega) e1), hup_ne (hC.inj hj (by unfold Lv; omega) e3), hup_ne (hC.inj hj (by unfold Lv; omega) e2)]
            have h_S : (hup (hup (hup h (AD (21 + 4 * t)) (gI G 10 (zup f9 (σ 8 t).toNat (yn : Int)))) (AD (22 + 4 * t)) (gJ G 10 (zup g9 (σ 8 t).toNat x))) (AD (20 + 4 * t)) (.inr (6, TF AD (st1 σ 8 t (σ 8 t + 1)) t))) (AD 15) = _ := (q0 15 (by unfold Lv; omega) (by omega) (by omega) (by omega)).trans h_S
            have h_C : (hup (hup (hup h (AD (21 + 4 * t)) (gI G 10 (zup f9 (σ 8 t).toNat (yn : Int)))) (AD (22 + 4 * t)) (gJ G 10 (zup g9 (σ 8 t).toNat x))) (AD (20 + 4 * t)) (.inr (6, TF AD (st1 σ 8 t (σ 8 t + 1)) t))) (AD 0) = _ := (q0 0 (by unfold Lv; omega) (by omega) (by omega) (by omega)).trans h_C
            have h_CE : (hup (hup (hup h (AD (21 + 4 * t)) (gI G 10 (zup f9 (σ 8 t).toNat (yn : Int)))) (AD (22 + 4 * t)) (gJ G 10 (zup g9 (σ 8 t).toNat x))) (AD (20 + 4 * t)) (.inr (6, TF AD (st1 σ 8 t (σ 8 t + 1)) t))) (AD 5) = _ := (q0 5 (by unfold Lv; omega) (by omega) (by omega) (by omega)).trans hcf
            refine j_aload_n hX dX5_section_58 rfl ?_
            refine j_get hX fl_X5_10_7 dX5_section_59 h_S (by rfl) ?_
            refine j_iload_n hX dX5_section_62 rfl ?_
            refine j_aload hX dX5_section_63 rfl ?_
            refine j_get hX fl_X5_90_6 dX5_section_65 h_T (by rfl) ?_
            have e2 : (st1 σ 8 t (σ 8 t + 1)) 2 t = σ 2 t := rfl
            rw [e2]
            refine j_callVv hX cv_X5_93 (c_raise h_C h_CE (r := yn) (by omega) hcr1 (k := σ 2 t) (by omega)) dX5_section_68 h_C rfl rfl (by exact ⟨Nat.le_of_ble_eq_true rfl, Nat.le_of_ble_eq_true rfl⟩) (by exact ⟨Nat.le_of_ble_eq_true rfl, Nat.le_of_ble_eq_true rfl⟩) (by exact Nat.le_of_ble_eq_true rfl) (fun h68 hp68 => ?_) rfl
            subst hp68
            have hC4 := hC.sec hO ht (by omega) (r := yn) (by omega) (len := x) hf9 hg9 hf9b hg9b hcfb
            have h_S := hC4.2.1.2
            have hF4 : Fc h (hup (hup (hup (hup h (AD (21 + 4 * t)) (gI G 10 (zup f9 (σ 8 t).toNat (yn : Int)))) (AD (22 + 4 * t)) (gJ G 10 (zup g9 (σ 8 t).toNat x))) (AD (20 + 4 * t)) (.inr (6, TF AD (st1 σ 8 t (σ 8 t + 1)) t))) (AD 5) (gI G 33 (zup cf yn (if cf yn < σ 2 t then σ 2 t else cf yn)))) AD n m := ((((Fc.rf h AD n m).up (by unfold Lv; omega) _).up (by unfold Lv; omega) _).up (by unfold Lv; omega) _).up (by unfold Lv; omega) _
            refine j_aload_n hX dX5_section_71 rfl ?_
            refine j_callVv hX cv_X5_62 (c_forget hC4 hO.1) dX5_section_72 h_S rfl rfl (by exact ⟨Nat.le_of_ble_eq_true rfl, Nat.le_of_ble_eq_true rfl⟩) (by exact ⟨Nat.le_of_ble_eq_true rfl, Nat.le_of_ble_eq_true rfl⟩) (by exact Nat.le_of_ble_eq_true rfl) (fun h72 hp72 => ?_) rfl
            obtain ⟨hC5, hK5, hP5, hF5⟩ := hp72
            have h_T := hC5.task ht
            refine j_aload hX dX5_section_75 rfl ?_
            refine j_get hX fl_X5_83_6 dX5_section_77 h_T (by rfl) ?_
            have e8 : (st1 (st1 (st1 σ 9 (10 * t - 10 + (σ 8 t).toNat) (yn : Int)) 10 (10 * t - 10 + (σ 8 t).toNat) x) 8 t (σ 8 t + 1)) 8 t = σ 8 t + 1 := by rw [st1_at, if_pos ⟨rfl, rfl⟩]
            rw [e8]
            exact j_iret hX hR dX5_section_80 ⟨by rw [secR, if_pos hz1, if_pos ⟨by omega, by omega⟩, htn, if_neg (by omega)], by rw [secS, htn, if_pos ⟨hz1, by omega, by omega, by omega⟩]; exact ⟨hC5, hK5, hP5⟩, hF4.tr hF5⟩
          · refine j_bipush hX dX5_section_48 (by decide) ?_
            exact j_iret hX hR dX5_section_50 ⟨by rw [secR, if_pos hz1, if_pos ⟨by omega, by omega⟩, htn, if_pos (by omega)], by rw [secS, htn, if_neg (by omega)]; exact hL, Fc.rf h AD n m⟩
        · refine j_bipush hX dX5_section_35 (by decide) ?_
          exact j_iret hX hR dX5_section_37 ⟨by rw [secR, if_pos hz1, if_neg (by omega)], by rw [secS, if_neg (by omega)]; exact hL, Fc.rf h AD n m⟩
  · refine j_aload_n hX dX5_section_0 rfl ?_
    refine j_get hX fl_X5_10_7 dX5_section_1 h_S (by rfl) ?_
    refine j_iload_n hX dX5_section_4 rfl ?_
    refine j_callV hX cv_X5_65 (c_taskOfN hC hO hz hz1) dX5_section_5 h_C rfl rfl (by exact ⟨Nat.le_of_ble_eq_true rfl, Nat.le_of_ble_eq_true rfl⟩) (by exact ⟨Nat.le_of_ble_eq_true rfl, Nat.le_of_ble_eq_true rfl⟩) (by exact Nat.le_of_ble_eq_true rfl) (fun v5 h5 hp5 => ?_) rfl
    obtain ⟨rfl, rfl⟩ := hp5
    refine j_astoreN hX dX5_section_8 (by decide) ?_
    refine j_aloadN hX dX5_section_10 rfl ?_
    refine j_ifnonnullN hX dX5_section_12 ?_
    refine j_iconst hX dX5_section_15 ?_
    exact j_iret hX hR dX5_section_16 ⟨by rw [secR, if_neg hz1], by rw [secS, if_neg (fun z9 => hz1 z9.1)]; exact hL, Fc.rf h AD n m⟩
