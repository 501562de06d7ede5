/-! THE CLASS: blocking, spanFrom, find -/
theorem isMax.un {S T U : Int → Prop} {x y r : Int} (hx : isMax S x) (hy : isMax T y) (h1 : r = x ∨ r = y) (h2 : x ≤ r) (h3 : y ≤ r) (hU : ∀ z, U z ↔ S z ∨ T z) : isMax U r := by
  refine ⟨?_, by have := hx.2.1; omega, fun z hz => ?_⟩
  · rcases h1 with h1 | h1
    · subst h1; exact hx.1.imp id (fun q => (hU _).mpr (Or.inl q))
    · subst h1; exact hy.1.imp id (fun q => (hU _).mpr (Or.inr q))
  · rcases (hU z).mp hz with q | q
    · have := hx.2.2 z q; omega
    · have := hy.2.2 z q; omega
theorem isMax.one {l : Int} (h : 0 ≤ l) : isMax (fun z => z = l) l := ⟨Or.inr rfl, h, fun z hz => by rw [hz]; exact Int.le_refl l⟩
def secU (σ : St) (n o : Nat) (k : Int) (j0 : Nat) (y : Int) : Prop := ∃ j : Nat, j < j0 ∧ (j : Int) < σ 8 o ∧ reach σ n (σ 9 (10 * o - 10 + j)) k ∧ y = σ 10 (10 * o - 10 + j)
set_option maxRecDepth 100000 in
set_option maxHeartbeats 4000000 in
theorem c_ceilingOf {l : Launch} {G : Gt} {B : Nat} {h : hF} {AD : Nat → Nat} {σ : St} {n m : Nat} (hC : Cr G h AD σ n m) (hO : OK n m σ) {r : Int} (hr : 0 ≤ r ∧ r ≤ 32) : Ct l G B yX0_ceilingOf cX0_ceilingOf 2 (some .int) 0 0 0 [.ref (AD 0), .int (iZ r)] h (fun v h' => (∃ x : Int, v = .int (iZ x) ∧ (-1 ≤ x ∧ x ≤ 255) ∧ ∀ k : Int, 0 ≤ k → (k ≤ x ↔ reach σ n r k)) ∧ h = h') := by
  refine Ct.of (by decide) (Nat.le_of_ble_eq_true rfl) ?_
  intro p e s m9 below meth c A hX hR hin
  have hn16 := hO.1
  have hm8 := hO.2.1
  have h_C := hC.2.1.1
  have hTL := hC.2.2.1
  have hIL := hC.2.2.2.1
  obtain ⟨cf, h_CE, hcf⟩ := hC.2.2.2.2.1
  obtain ⟨r1, rfl⟩ : ∃ r1 : Nat, r = (r1 : Int) := ⟨r.toNat, by omega⟩
  have hcr := hcf r1 (by omega)
  refine j_iload_n hX dX0_ceilingOf_0 rfl ?_
  refine j_if_lt hX 22 dX0_ceilingOf_1 (by decide) (by omega) (fun c1 => absurd c1 (by omega)) (fun c1 => ?_)
  refine j_iload_n hX dX0_ceilingOf_4 rfl ?_
  refine j_aload_n hX dX0_ceilingOf_5 rfl ?_
  refine j_get hX fl_X0_21_2 dX0_ceilingOf_6 h_C (by rfl) ?_
  refine j_alenI hX dX0_ceilingOf_9 h_CE ?_
  refine j_icmp_ge hX 22 dX0_ceilingOf_10 (by decide) (by omega) (by omega) (fun c10 => absurd c10 (by omega)) (fun c10 => ?_)
  refine j_aload_n hX dX0_ceilingOf_13 rfl ?_
  refine j_get hX fl_X0_21_2 dX0_ceilingOf_14 h_C (by rfl) ?_
  refine j_iload_n hX dX0_ceilingOf_17 rfl ?_
  refine j_ialdN hX _ rfl dX0_ceilingOf_18 h_CE (by omega) (by decide) ?_
  refine j_goto hX 23 dX0_ceilingOf_19 (by decide) ?_
  exact j_iret hX hR dX0_ceilingOf_23 ⟨⟨cf r1, rfl, hcr⟩, rfl⟩
set_option maxRecDepth 100000 in
set_option maxHeartbeats 4000000 in
theorem c_longestSection {l : Launch} {G : Gt} {B : Nat} {h : hF} {AD : Nat → Nat} {σ : St} {n m : Nat} (hC : Cr G h AD σ n m) (hO : OK n m σ) {o : Nat} (ho : 1 ≤ o ∧ o ≤ n) {k : Int} (hk : 0 ≤ k ∧ k ≤ 255) : Ct l G B yX0_longestSection cX0_longestSection 6 (some .long) 1 0 0 [.ref (AD 0), .ref (AD (20 + 4 * o)), .int (iZ k)] h (fun v h' => (∃ x : Int, v = .long (lZ x) ∧ isMax (fun y => ∃ j : Nat, (j : Int) < σ 8 o ∧ reach σ n (σ 9 (10 * o - 10 + j)) k ∧ y = σ 10 (10 * o - 10 + j)) x) ∧ h = h') := by
  refine Ct.of (by decide) (Nat.le_of_ble_eq_true rfl) ?_
  intro p e s m9 below meth c A hX hR hin
  have hn16 := hO.1
  have hm8 := hO.2.1
  have h_C := hC.2.1.1
  have hTL := hC.2.2.1
  have hIL := hC.2.2.2.1
  obtain ⟨h_O, ⟨fr9, h_RE, hfr⟩, ⟨fl9, h_LE, hfl⟩, -⟩ := hC.2.2.2.2.2.1 o ho.1 ho.2
  obtain ⟨o0, o1, o2, o3, o4, o5, o6, o7, o8, o9⟩ := hO.2.2.1 o ho.1 ho.2
  refine J_abs (J0 := J p l e _ s m9 _ below meth c _ _ G A) ?_
  intro JX hji hjo
  have lp : ∀ (d j : Nat) (x : Int), (d : Int) + j = σ 8 o → isMax (secU σ n o k j) x → x ≤ 1000 → JX 0 0 5 [(0, .ref (AD 0)), (1, .ref (AD (20 + 4 * o))), (2, .int (iZ k)), (3, .long (lZ x)), (5, .int (iZ ((j : Nat) : Int)))] [] h := by
    intro d
    induction d with
    | zero =>
      intro j x hd hx hx9
      refine hji ?_
      refine j_iload hX dX0_longestSection_5 rfl ?_
      refine j_aload_n hX dX0_longestSection_7 rfl ?_
      refine j_get hX fl_X0_52_6 dX0_longestSection_8 h_O (by rfl) ?_
      refine j_icmp_ge hX 54 dX0_longestSection_11 (by decide) (by omega) (by omega) (fun c11 => ?_) (fun c11 => absurd c11 (by omega))
      refine j_lload_n hX dX0_longestSection_54 rfl ?_
      exact j_lret hX hR dX0_longestSection_55 ⟨⟨x, rfl, hx.congr (fun y => ⟨fun ⟨j2, a1, a2⟩ => ⟨j2, a2⟩, fun ⟨j2, a2⟩ => ⟨j2, by omega, a2⟩⟩)⟩, rfl⟩
    | succ d ih =>
      intro j x hd hx hx9
      have hjl : (j : Int) < σ 8 o := by omega
      have o9 := o9 j hjl
      have hx0 := hx.2.1
      have er := hfr j hjl
      have el := hfl j hjl
      refine hji ?_
      refine j_iload hX dX0_longestSection_5 rfl ?_
      refine j_aload_n hX dX0_longestSection_7 rfl ?_
      refine j_get hX fl_X0_52_6 dX0_longestSection_8 h_O (by rfl) ?_
      refine j_icmp_ge hX 54 dX0_longestSection_11 (by decide) (by omega) (by omega) (fun c11 => absurd c11 (by omega)) (fun c11 => ?_)
      refine j_iload hX dX0_longestSection_14 rfl ?_
      refine j_bipush hX dX0_longestSection_16 (by decide) ?_
      refine j_icmp_ge hX 54 dX0_longestSection_18 (by decide) (by omega) (by omega) (fun c18 => absurd c18 (by omega)) (fun c18 => ?_)
      refine j_aload_n hX dX0_longestSection_21 rfl ?_
      refine j_aload_n hX dX0_longestSection_22 rfl ?_
      refine j_get hX fl_X0_55_6 dX0_longestSection_23 h_O (by rfl) ?_
      refine j_iload hX dX0_longestSection_26 rfl ?_
      refine j_ialdN hX _ rfl dX0_longestSection_28 h_RE (by omega) (by decide) ?_
      rw [er]
      refine j_callV hX cv_X0_58 (c_ceilingOf hC hO (by omega)) dX0_longestSection_29 h_C rfl rfl (by exact ⟨Nat.le_of_ble_eq_true rfl, Nat.le_of_ble_eq_true rfl⟩) (by exact ⟨Nat.le_of_ble_eq_true rfl, Nat.le_of_ble_eq_true rfl⟩) (by exact Nat.le_of_ble_eq_true rfl) (fun v29 h29 hp29 => ?_) rfl
      obtain ⟨⟨y29, rfl, hy29, hk29⟩, rfl⟩ := hp29
      refine j_iload_n hX dX0_longestSection_32 rfl ?_
      refine j_icmp_lt hX 48 dX0_longestSection_33 (by decide) (by omega) (by omega) (fun c33 => ?_) (fun c33 => ?_)
      · refine j_iinc hX dX0_longestSection_48 rfl (by decide) ?_
        refine j_goto hX 5 dX0_longestSection_51 (by decide) ?_
        exact j_at (L' := [(0, .ref (AD 0)), (1, .ref (AD (20 + 4 * o))), (2, .int (iZ k)), (3, .long (lZ _)), (5, .int (iZ (((j + 1) : Nat) : Int)))]) (hjo (ih (j + 1) _ (by omega) (hx.keep (fun y ⟨j2, a1, a2⟩ => ⟨j2, by omega, a2⟩) (fun y ⟨j2, a1, a2, a3, a4⟩ => by rcases Nat.lt_or_ge j2 j with q | q; exact Or.inl ⟨j2, q, a2, a3, a4⟩; (have e : j2 = j := by omega); subst e; exact absurd ((hk29 k hk.1).mpr a3) (by omega))) (by first | omega | (split <;> omega)))) ⟨rfl, rfl, rfl, rfl, rfl, trivial⟩
      · refine j_lload_n hX dX0_longestSection_36 rfl ?_
        refine j_aload_n hX dX0_longestSection_37 rfl ?_
        refine j_get hX fl_X0_62_6 dX0_longestSection_38 h_O (by rfl) ?_
        refine j_iload hX dX0_longestSection_41 rfl ?_
        refine j_laldN hX _ rfl dX0_longestSection_43 h_LE (by omega) (by decide) ?_
        rw [el]
        refine j_lmax hX mx_X0_49.1 mx_X0_49.2.1 mx_X0_49.2.2.1 mx_X0_49.2.2.2 dX0_longestSection_44 (by omega) (by omega) (by exact ⟨Nat.le_of_ble_eq_true rfl, Nat.le_of_ble_eq_true rfl⟩) (by exact ⟨Nat.le_of_ble_eq_true rfl, Nat.le_of_ble_eq_true rfl⟩) ?_
        refine j_lstore_n hX dX0_longestSection_47 (by decide) ?_
        refine j_iinc hX dX0_longestSection_48 rfl (by decide) ?_
        refine j_goto hX 5 dX0_longestSection_51 (by decide) ?_
        exact j_at (L' := [(0, .ref (AD 0)), (1, .ref (AD (20 + 4 * o))), (2, .int (iZ k)), (3, .long (lZ _)), (5, .int (iZ (((j + 1) : Nat) : Int)))]) (hjo (ih (j + 1) _ (by omega) (hx.un (isMax.one (l := σ 10 (10 * o - 10 + j)) (by omega)) (by split <;> first | exact Or.inl rfl | exact Or.inr rfl) (by split <;> omega) (by split <;> omega) (fun y => ⟨fun ⟨j2, a1, a2, a3, a4⟩ => by rcases Nat.lt_or_ge j2 j with q | q; exact Or.inl ⟨j2, q, a2, a3, a4⟩; (have e : j2 = j := by omega); subst e; exact Or.inr a4, fun q => by rcases q with ⟨j2, a1, a2⟩ | q; exact ⟨j2, by omega, a2⟩; exact ⟨j, by omega, hjl, (hk29 k hk.1).mp (by omega), q⟩⟩)) (by first | omega | (split <;> omega)))) ⟨rfl, rfl, rfl, rfl, rfl, trivial⟩
  refine hji ?_
  refine j_lconst0 hX dX0_longestSection_0 ?_
  refine j_lstore_n hX dX0_longestSection_1 (by decide) ?_
  refine j_iconst hX dX0_longestSection_2 ?_
  refine j_istore hX dX0_longestSection_3 (by decide) ?_
  exact j_at (L' := [(0, .ref (AD 0)), (1, .ref (AD (20 + 4 * o))), (2, .int (iZ k)), (3, .long (lZ _)), (5, .int (iZ ((0 : Nat) : Int)))]) (hjo (lp (σ 8 o).toNat 0 0 (by omega) (isMax.zero (fun y ⟨j2, a1, a2⟩ => by omega)) (by omega))) ⟨rfl, rfl, rfl, rfl, rfl, trivial⟩
set_option maxRecDepth 100000 in
set_option maxHeartbeats 4000000 in
theorem c_blockingOf {l : Launch} {G : Gt} {B : Nat} {h : hF} {AD : Nat → Nat} {σ : St} {n m : Nat} (hC : Cr G h AD σ n m) (hO : OK n m σ) {t : Nat} (ht : 1 ≤ t ∧ t ≤ n) : Ct l G B yX0_blockingOf cX0_blockingOf 6 (some .long) 3 0 0 [.ref (AD 0), .ref (AD (20 + 4 * t))] h (fun v h' => v = .long (lZ (blk σ n t)) ∧ h = h') := by
  refine Ct.of (by decide) (Nat.le_of_ble_eq_true rfl) ?_
  intro p e s m9 below meth c A hX hR hin
  have hn16 := hO.1
  have hm8 := hO.2.1
  have h_C := hC.2.1.1
  have hTL := hC.2.2.1
  have hIL := hC.2.2.2.1
  have hTL9 := hTL
  obtain ⟨mcT, capT, gT, h_TL, -⟩ := hTL9
  have hIL9 := hIL
  obtain ⟨mcI, capI, gI9, h_IL, -⟩ := hIL9
  have h_T := hC.task ht
  obtain ⟨-, -, r0, -⟩ := hO.2.2.1 t ht.1 ht.2
  refine J_abs (J0 := J p l e _ s m9 _ below meth c _ _ G A) ?_
  intro JX hji hjo
  have lp : ∀ (d o : Nat) (x : Int), d + o = n → isMax (blkU σ n t (o + 1) 0) x → x ≤ 1000 → JX 0 0 5 [(0, .ref (AD 0)), (1, .ref (AD (20 + 4 * t))), (2, .long (lZ x)), (4, .int (iZ ((o : Nat) : Int)))] [] h := by
    intro d
    induction d with
    | zero =>
      intro o x hd hx hx9
      refine hji ?_
      refine j_iload hX dX0_blockingOf_5 rfl ?_
      refine j_aload_n hX dX0_blockingOf_7 rfl ?_
      refine j_get hX fl_X0_12_2 dX0_blockingOf_8 h_C (by rfl) ?_
      refine j_callV hX cv_X0_25 (c_size hTL) dX0_blockingOf_11 h_TL rfl rfl (by exact ⟨Nat.le_of_ble_eq_true rfl, Nat.le_of_ble_eq_true rfl⟩) (by exact ⟨Nat.le_of_ble_eq_true rfl, Nat.le_of_ble_eq_true rfl⟩) (by exact Nat.le_of_ble_eq_true rfl) (fun v11 h11 hp11 => ?_) rfl
      obtain ⟨rfl, rfl⟩ := hp11
      refine j_icmp_ge hX 64 dX0_blockingOf_14 (by decide) (by omega) (by omega) (fun c14 => ?_) (fun c14 => absurd c14 (by omega))
      refine j_lload_n hX dX0_blockingOf_64 rfl ?_
      exact j_lret hX hR dX0_blockingOf_65 ⟨by rw [blk_eq (hx.congr (fun y => by rw [show o = n by omega]; exact blkU_all))], rfl⟩
    | succ d ih =>
      intro o x hd hx hx9
      obtain ⟨o0, o1, o2, o3, o4, o5, o6, o7, o8, o9⟩ := hO.2.2.1 (o + 1) (by omega) (by omega)
      have h_O := hC.task (t := o + 1) ⟨by omega, by omega⟩
      have e9 : 20 + 4 * (o + 1) = 24 + 4 * o := by omega
      have hx0 := hx.2.1
      refine hji ?_
      refine j_iload hX dX0_blockingOf_5 rfl ?_
      refine j_aload_n hX dX0_blockingOf_7 rfl ?_
      refine j_get hX fl_X0_12_2 dX0_blockingOf_8 h_C (by rfl) ?_
      refine j_callV hX cv_X0_25 (c_size hTL) dX0_blockingOf_11 h_TL rfl rfl (by exact ⟨Nat.le_of_ble_eq_true rfl, Nat.le_of_ble_eq_true rfl⟩) (by exact ⟨Nat.le_of_ble_eq_true rfl, Nat.le_of_ble_eq_true rfl⟩) (by exact Nat.le_of_ble_eq_true rfl) (fun v11 h11 hp11 => ?_) rfl
      obtain ⟨rfl, rfl⟩ := hp11
      refine j_icmp_ge hX 64 dX0_blockingOf_14 (by decide) (by omega) (by omega) (fun c14 => absurd c14 (by omega)) (fun c14 => ?_)
      refine j_aload_n hX dX0_blockingOf_17 rfl ?_
      refine j_get hX fl_X0_12_2 dX0_blockingOf_18 h_C (by rfl) ?_
      refine j_iload hX dX0_blockingOf_21 rfl ?_
      refine j_callV hX cv_X0_29 (c_get hTL (by omega) (i := o) (x := AD (20 + 4 * (o + 1))) (by omega) (by rw [e9])) dX0_blockingOf_23 h_TL rfl rfl (by exact ⟨Nat.le_of_ble_eq_true rfl, Nat.le_of_ble_eq_true rfl⟩) (by exact ⟨Nat.le_of_ble_eq_true rfl, Nat.le_of_ble_eq_true rfl⟩) (by exact Nat.le_of_ble_eq_true rfl) (fun v23 h23 hp23 => ?_) rfl
      obtain ⟨rfl, rfl⟩ := hp23
      refine j_castS hX ck_X0_33 dX0_blockingOf_26 h_O rfl ?_
      refine j_astore hX dX0_blockingOf_29 (by decide) ?_
      refine j_aload hX dX0_blockingOf_31 rfl ?_
      refine j_get hX fl_X0_41_6 dX0_blockingOf_33 h_O (by rfl) ?_
      refine j_aload_n hX dX0_blockingOf_36 rfl ?_
      refine j_get hX fl_X0_41_6 dX0_blockingOf_37 h_T (by rfl) ?_
      refine j_icmp_ge hX 58 dX0_blockingOf_40 (by decide) (by omega) (by omega) (fun c40 => ?_) (fun c40 => ?_)
      · refine j_iinc hX dX0_blockingOf_58 rfl (by decide) ?_
        refine j_goto hX 5 dX0_blockingOf_61 (by decide) ?_
        exact j_at (L' := [(0, .ref (AD 0)), (1, .ref (AD (20 + 4 * t))), (2, .long (lZ _)), (4, .int (iZ (((o + 1) : Nat) : Int)))]) (hjo (ih (o + 1) _ (by omega) (hx.congr (fun y => ⟨fun ⟨o2, j2, a1, a2, a3, a4⟩ => ⟨o2, j2, a1, a2, by omega, a4⟩, fun ⟨o2, j2, a1, a2, a3, a4, a5, a6⟩ => ⟨o2, j2, a1, a2, by rcases a3 with a3 | a3; (by_cases e : o2 = o + 1; subst e; omega; exact Or.inl (by omega)); omega, a4, a5, a6⟩⟩)) (by first | omega | (split <;> omega)))) ⟨rfl, rfl, rfl, rfl, trivial⟩
      · refine j_lload_n hX dX0_blockingOf_43 rfl ?_
        refine j_aload_n hX dX0_blockingOf_44 rfl ?_
        refine j_aload hX dX0_blockingOf_45 rfl ?_
        refine j_aload_n hX dX0_blockingOf_47 rfl ?_
        refine j_get hX fl_X0_41_6 dX0_blockingOf_48 h_T (by rfl) ?_
        refine j_callV hX cv_X0_45 (c_longestSection hC hO (o := o + 1) ⟨by omega, by omega⟩ (by omega)) dX0_blockingOf_51 h_C rfl rfl (by exact ⟨Nat.le_of_ble_eq_true rfl, Nat.le_of_ble_eq_true rfl⟩) (by exact ⟨Nat.le_of_ble_eq_true rfl, Nat.le_of_ble_eq_true rfl⟩) (by exact Nat.le_of_ble_eq_true rfl) (fun v51 h51 hp51 => ?_) rfl
        obtain ⟨⟨y51, rfl, hy51⟩, rfl⟩ := hp51
        have hy0 := hy51.2.1
        have hy9 : y51 ≤ 1000 := by
          rcases hy51.1 with q | ⟨j2, a1, a2, a3⟩
          · omega
          · have := (o9 j2 a1).2; omega
        refine j_lmax hX mx_X0_49.1 mx_X0_49.2.1 mx_X0_49.2.2.1 mx_X0_49.2.2.2 dX0_blockingOf_54 (by omega) (by omega) (by exact ⟨Nat.le_of_ble_eq_true rfl, Nat.le_of_ble_eq_true rfl⟩) (by exact ⟨Nat.le_of_ble_eq_true rfl, Nat.le_of_ble_eq_true rfl⟩) ?_
        refine j_lstore_n hX dX0_blockingOf_57 (by decide) ?_
        refine j_iinc hX dX0_blockingOf_58 rfl (by decide) ?_
        refine j_goto hX 5 dX0_blockingOf_61 (by decide) ?_
        exact j_at (L' := [(0, .ref (AD 0)), (1, .ref (AD (20 + 4 * t))), (2, .long (lZ _)), (4, .int (iZ (((o + 1) : Nat) : Int)))]) (hjo (ih (o + 1) _ (by omega) (hx.un hy51 (by split <;> first | exact Or.inl rfl | exact Or.inr rfl) (by split <;> omega) (by split <;> omega) (fun y => ⟨fun ⟨o2, j2, a1, a2, a3, a4, a5, a6, a7⟩ => by by_cases e : o2 = o + 1; subst e; exact Or.inr ⟨j2, a4, a6, a7⟩; exact Or.inl ⟨o2, j2, a1, a2, by omega, a4, a5, a6, a7⟩, fun q => by rcases q with ⟨o2, j2, a1, a2, a3, a4⟩ | ⟨j2, a4, a6, a7⟩; exact ⟨o2, j2, a1, a2, by omega, a4⟩; exact ⟨o + 1, j2, by omega, by omega, Or.inl (by omega), a4, by omega, a6, a7⟩⟩)) (by first | omega | (split <;> omega)))) ⟨rfl, rfl, rfl, rfl, trivial⟩
  refine hji ?_
  refine j_lconst0 hX dX0_blockingOf_0 ?_
  refine j_lstore_n hX dX0_blockingOf_1 (by decide) ?_
  refine j_iconst hX dX0_blockingOf_2 ?_
  refine j_istore hX dX0_blockingOf_3 (by decide) ?_
  exact j_at (L' := [(0, .ref (AD 0)), (1, .ref (AD (20 + 4 * t))), (2, .long (lZ _)), (4, .int (iZ ((0 : Nat) : Int)))]) (hjo (lp n 0 0 (by omega) (isMax.zero (fun y => by rintro ⟨o2, i2, h1, h2, h3, h4⟩; omega)) (by omega))) ⟨rfl, rfl, rfl, rfl, trivial⟩
set_option maxRecDepth 100000 in
set_option maxHeartbeats 4000000 in
theorem c_spanFrom {l : Launch} {G : Gt} {B : Nat} {h : hF} {AD : Nat → Nat} {σ : St} {n m : Nat} (hC : Cr G h AD σ n m) (hO : OK n m σ) {t : Nat} (ht : 1 ≤ t ∧ t ≤ n) {q Bq fixed least most : Int} (hq : 0 ≤ q ∧ q ≤ 500) (hB : 0 ≤ Bq ∧ Bq ≤ 1000) (hfix : fixed = (q + 1) * cosT σ t + Bq) (hfb : 0 ≤ fixed ∧ fixed ≤ 10000000) (hl : 1 ≤ least ∧ least ≤ 10000000000000) (hm : 0 ≤ most ∧ most ≤ 40000) (hLE0 : LEp (nee σ n m t Bq q) least) : Ct l G B yX0_spanFrom cX0_spanFrom 14 (some .long) 4 0 0 [.ref (AD 0), .ref (AD (20 + 4 * t)), .long (lZ fixed), .long (lZ least), .long (lZ most)] h (fun v h' => (∃ r : Int, v = .long (lZ r) ∧ ((isL (nee σ n m t Bq q) r ∧ r ≤ most) ∨ (r = -1 ∧ ∀ u, 1 ≤ u → u ≤ most → ¬ nee σ n m t Bq q u ≤ u))) ∧ h = h') := by
  refine Ct.of (by decide) (Nat.le_of_ble_eq_true rfl) ?_
  intro p e s m9 below meth c A hX hR hin
  have hn16 := hO.1
  have hm8 := hO.2.1
  have h_C := hC.2.1.1
  have hTL := hC.2.2.1
  have hIL := hC.2.2.2.1
  refine J_abs (J0 := J p l e _ s m9 _ below meth c _ _ G A) ?_
  intro JX hji hjo
  have lp : ∀ (d : Nat) (sp1 step : Int), most - sp1 < (d : Int) → 1 ≤ sp1 → 0 ≤ step → step < sp1 → sp1 ≤ 10000000000000 → LEp (nee σ n m t Bq q) sp1 → JX 0 0 7 [(0, .ref (AD 0)), (1, .ref (AD (20 + 4 * t))), (2, .long (lZ fixed)), (6, .long (lZ most)), (8, .long (lZ sp1)), (10, .long (lZ step))] [] h := by
    intro d
    induction d with
    | zero =>
      intro sp1 step hd h1 h2 h3 h9 hLE
      refine hji ?_
      refine j_lload hX dX0_spanFrom_7 rfl ?_
      refine j_ldc2 hX k_X0_107 (z := 40000) (by decide) dX0_spanFrom_9 ?_
      refine j_lcmp_gt hX 59 dX0_spanFrom_12 dX0_spanFrom_13 (by decide) (by omega) (by omega) (fun c12 => ?_) (fun c12 => ?_)
      · refine j_ldc2 hX k_X0_120 (z := -1) (by decide) dX0_spanFrom_59 ?_
        exact j_lret hX hR dX0_spanFrom_62 ⟨⟨-1, rfl, Or.inr ⟨rfl, fun u u1 u2 u3 => by have := hLE u u1 u3; omega⟩⟩, rfl⟩
      · refine j_lload hX dX0_spanFrom_16 rfl ?_
        refine j_lload hX dX0_spanFrom_18 rfl ?_
        refine j_lcmp_gt hX 59 dX0_spanFrom_20 dX0_spanFrom_21 (by decide) (by omega) (by omega) (fun c20 => ?_) (fun c20 => absurd c20 (by omega))
        refine j_ldc2 hX k_X0_120 (z := -1) (by decide) dX0_spanFrom_59 ?_
        exact j_lret hX hR dX0_spanFrom_62 ⟨⟨-1, rfl, Or.inr ⟨rfl, fun u u1 u2 u3 => by have := hLE u u1 u3; omega⟩⟩, rfl⟩
    | succ d ih =>
      intro sp1 step hd h1 h2 h3 h9 hLE
      refine hji ?_
      refine j_lload hX dX0_spanFrom_7 rfl ?_
      refine j_ldc2 hX k_X0_107 (z := 40000) (by decide) dX0_spanFrom_9 ?_
      refine j_lcmp_gt hX 59 dX0_spanFrom_12 dX0_spanFrom_13 (by decide) (by omega) (by omega) (fun c12 => ?_) (fun c12 => ?_)
      · refine j_ldc2 hX k_X0_120 (z := -1) (by decide) dX0_spanFrom_59 ?_
        exact j_lret hX hR dX0_spanFrom_62 ⟨⟨-1, rfl, Or.inr ⟨rfl, fun u u1 u2 u3 => by have := hLE u u1 u3; omega⟩⟩, rfl⟩
      · refine j_lload hX dX0_spanFrom_16 rfl ?_
        refine j_lload hX dX0_spanFrom_18 rfl ?_
        refine j_lcmp_gt hX 59 dX0_spanFrom_20 dX0_spanFrom_21 (by decide) (by omega) (by omega) (fun c20 => ?_) (fun c20 => ?_)
        · refine j_ldc2 hX k_X0_120 (z := -1) (by decide) dX0_spanFrom_59 ?_
          exact j_lret hX hR dX0_spanFrom_62 ⟨⟨-1, rfl, Or.inr ⟨rfl, fun u u1 u2 u3 => by have := hLE u u1 u3; omega⟩⟩, rfl⟩
        · have hnb := nee_b hO ht (B := Bq) (q := q) (w := sp1) hB hq (by omega)
          have hne : fixed + (takT σ t n sp1 + takI σ m sp1) = nee σ n m t Bq q sp1 := by rw [hfix]; unfold nee; omega
          have hge : sp1 ≤ nee σ n m t Bq q sp1 := by
            rcases Int.lt_or_le (nee σ n m t Bq q sp1) sp1 with z9 | z9
            · have := hLE _ hnb.1 (nee_mono hO (by omega)); omega
            · exact z9
          refine j_lload_n hX dX0_spanFrom_24 rfl ?_
          refine j_aload_n hX dX0_spanFrom_25 rfl ?_
          refine j_aload_n hX dX0_spanFrom_26 rfl ?_
          refine j_lload hX dX0_spanFrom_27 rfl ?_
          refine j_callV hX cv_X0_126 (c_takenAbove hC hO ht (w := sp1) (by omega)) dX0_spanFrom_29 h_C rfl rfl (by exact ⟨Nat.le_of_ble_eq_true rfl, Nat.le_of_ble_eq_true rfl⟩) (by exact ⟨Nat.le_of_ble_eq_true rfl, Nat.le_of_ble_eq_true rfl⟩) (by exact Nat.le_of_ble_eq_true rfl) (fun v29 h29 hp29 => ?_) rfl
          obtain ⟨rfl, rfl⟩ := hp29
          refine j_ladd hX dX0_spanFrom_32 ?_
          rw [hne]
          refine j_lstore hX dX0_spanFrom_33 (by decide) ?_
          refine j_lload hX dX0_spanFrom_35 rfl ?_
          refine j_lload hX dX0_spanFrom_37 rfl ?_
          refine j_lcmp_ne hX 46 dX0_spanFrom_39 dX0_spanFrom_40 (by decide) (by omega) (by omega) (fun c39 => ?_) (fun c39 => ?_)
          · refine j_lload hX dX0_spanFrom_46 rfl ?_
            refine j_lstore hX dX0_spanFrom_48 (by decide) ?_
            refine j_lload hX dX0_spanFrom_50 rfl ?_
            refine j_lconst1 hX dX0_spanFrom_52 ?_
            refine j_ladd hX dX0_spanFrom_53 ?_
            refine j_lstore hX dX0_spanFrom_54 (by decide) ?_
            refine j_goto hX 7 dX0_spanFrom_56 (by decide) ?_
            exact j_at (L' := [(0, .ref (AD 0)), (1, .ref (AD (20 + 4 * t))), (2, .long (lZ fixed)), (6, .long (lZ most)), (8, .long (lZ _)), (10, .long (lZ _))]) (hjo (ih _ _ (by omega) (by omega) (by omega) (by omega) (by omega) (fun u u1 u2 => by have e1 := hLE u u1 u2; have e2 := nee_mono hO (t := t) (B := Bq) (q := q) e1; omega))) ⟨rfl, rfl, rfl, rfl, rfl, rfl, trivial⟩
          · refine j_lload hX dX0_spanFrom_43 rfl ?_
            exact j_lret hX hR dX0_spanFrom_45 ⟨⟨sp1, rfl, Or.inl ⟨⟨h1, by omega, hLE⟩, by omega⟩⟩, rfl⟩
  refine hji ?_
  refine j_lload hX dX0_spanFrom_0 rfl ?_
  refine j_lstore hX dX0_spanFrom_2 (by decide) ?_
  refine j_lconst0 hX dX0_spanFrom_4 ?_
  refine j_lstore hX dX0_spanFrom_5 (by decide) ?_
  exact j_at (L' := [(0, .ref (AD 0)), (1, .ref (AD (20 + 4 * t))), (2, .long (lZ fixed)), (6, .long (lZ most)), (8, .long (lZ _)), (10, .long (lZ _))]) (hjo (lp 40001 least 0 (by omega) (by omega) (by omega) (by omega) (by omega) hLE0)) ⟨rfl, rfl, rfl, rfl, rfl, rfl, trivial⟩
