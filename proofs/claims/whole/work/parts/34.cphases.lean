/-! THE CLASS: Phases -/
def pcell (G : Gt) (k : Nat) (f : Nat → Int) : va_E := match k with
  | 8 => gI G 3 f
  | _ => gJ G 3 f
def PS (G : Gt) (h : hF) (AD : Nat → Nat) (kn ct en : Int) (F : St) : Prop := h (AD 6) = some (.inr (5, PF AD kn ct en)) ∧ ∀ k : Nat, 7 ≤ k → k ≤ 13 → h (AD k) = some (pcell G k (F k))
def PI (AD : Nat → Nat) : Prop := ∀ i j : Nat, 6 ≤ i → i ≤ 13 → 6 ≤ j → j ≤ 13 → AD i = AD j → i = j
def Fp (h h' : hF) (AD : Nat → Nat) : Prop := ∀ a : Nat, (∀ k : Nat, 6 ≤ k → k ≤ 13 → a ≠ AD k) → h' a = h a
theorem Fp.rf (h : hF) (AD : Nat → Nat) : Fp h h AD := fun _ _ => rfl
theorem Fp.tr {h h1 h2 : hF} {AD : Nat → Nat} (x : Fp h h1 AD) (y : Fp h1 h2 AD) : Fp h h2 AD := fun a q => (y a q).trans (x a q)
theorem Fp.up {h h1 : hF} {AD : Nat → Nat} (x : Fp h h1 AD) {k : Nat} (k1 : 6 ≤ k) (k2 : k ≤ 13) (e : va_E) : Fp h (hup h1 (AD k) e) AD := fun a q => by rw [hup_ne (q k k1 k2)]; exact x a q
theorem pcell_inl (G : Gt) (k : Nat) (f : Nat → Int) (x : Nat × List Value) : pcell G k f ≠ .inr x := by
  unfold pcell; split <;> (intro q; cases q)
theorem PS.fld {G : Gt} {h : hF} {AD : Nat → Nat} {kn ct en : Int} {F : St} (hP : PS G h AD kn ct en F) {kn' ct' en' : Int} : PS G (hup h (AD 6) (.inr (5, PF AD kn' ct' en'))) AD kn' ct' en' F := ⟨hup_eq _ _ _, fun k k1 k2 => hup_k (hP.2 k k1 k2) hP.1 (pcell_inl _ _ _ _)⟩
theorem PS.arr {G : Gt} {h : hF} {AD : Nat → Nat} {kn ct en : Int} {F : St} (hI9 : PI AD) (hP : PS G h AD kn ct en F) {k : Nat} (k1 : 7 ≤ k) (k2 : k ≤ 13) (f : Nat → Int) : PS G (hup h (AD k) (pcell G k f)) AD kn ct en (sup F k f) := by
  refine ⟨hup_k hP.1 (hP.2 k k1 k2) (fun q => pcell_inl _ _ _ _ q.symm), fun j j1 j2 => ?_⟩
  by_cases e : j = k
  · subst e; rw [sup_eq, hup_eq]
  · rw [sup_ne e, hup_ne (fun q => e (hI9 j k (by omega) j2 (by omega) k2 q))]
    exact hP.2 j j1 j2
def STA (σ : St) (n : Nat) (F : St) : Prop := ∀ i : Nat, i < n → F 8 i = σ 2 (i + 1) ∧ F 9 i = σ 0 (i + 1) ∧ F 10 i = σ 1 (i + 1) ∧ F 11 i = σ 7 (i + 1)
theorem PS.b7 {G : Gt} {h : hF} {AD : Nat → Nat} {kn ct en : Int} {F : St} (hP : PS G h AD kn ct en F) : h (AD 7) = some (gJ G 3 (F 7)) := hP.2 7 (by omega) (by omega)
theorem PS.b8 {G : Gt} {h : hF} {AD : Nat → Nat} {kn ct en : Int} {F : St} (hP : PS G h AD kn ct en F) : h (AD 8) = some (gI G 3 (F 8)) := hP.2 8 (by omega) (by omega)
theorem PS.b9 {G : Gt} {h : hF} {AD : Nat → Nat} {kn ct en : Int} {F : St} (hP : PS G h AD kn ct en F) : h (AD 9) = some (gJ G 3 (F 9)) := hP.2 9 (by omega) (by omega)
theorem PS.b10 {G : Gt} {h : hF} {AD : Nat → Nat} {kn ct en : Int} {F : St} (hP : PS G h AD kn ct en F) : h (AD 10) = some (gJ G 3 (F 10)) := hP.2 10 (by omega) (by omega)
theorem PS.b11 {G : Gt} {h : hF} {AD : Nat → Nat} {kn ct en : Int} {F : St} (hP : PS G h AD kn ct en F) : h (AD 11) = some (gJ G 3 (F 11)) := hP.2 11 (by omega) (by omega)
theorem PS.b12 {G : Gt} {h : hF} {AD : Nat → Nat} {kn ct en : Int} {F : St} (hP : PS G h AD kn ct en F) : h (AD 12) = some (gJ G 3 (F 12)) := hP.2 12 (by omega) (by omega)
theorem PS.b13 {G : Gt} {h : hF} {AD : Nat → Nat} {kn ct en : Int} {F : St} (hP : PS G h AD kn ct en F) : h (AD 13) = some (gJ G 3 (F 13)) := hP.2 13 (by omega) (by omega)
set_option maxRecDepth 100000 in
set_option maxHeartbeats 4000000 in
theorem c_longestOf {l : Launch} {G : Gt} {B : Nat} {h : hF} {AD : Nat → Nat} {kn ct en : Int} {F : St} (hP : PS G h AD kn ct en F) {n : Nat} (hct : ct = (n : Int)) (hn3 : n ≤ 3) {i : Nat} (hi : i < n) : Ct l G B yX3_longestOf cX3_longestOf 2 (some .long) 0 0 0 [.ref (AD 6), .int (iZ (i : Int))] h (fun v h' => v = .long (lZ (F 7 i)) ∧ h = h') := by
  refine Ct.of (by decide) (Nat.le_of_ble_eq_true rfl) ?_
  intro p e s m9 below meth c A hX hR hin
  have h_P := hP.1
  have h_b7 := hP.b7
  have h_b8 := hP.b8
  have h_b9 := hP.b9
  have h_b10 := hP.b10
  have h_b11 := hP.b11
  have h_b12 := hP.b12
  have h_b13 := hP.b13
  subst hct
  refine j_iload_n hX dX3_longestOf_0 rfl ?_
  refine j_if_lt hX 21 dX3_longestOf_1 (by decide) (by omega) (fun c1 => absurd c1 (by omega)) (fun c1 => ?_)
  refine j_iload_n hX dX3_longestOf_4 rfl ?_
  refine j_aload_n hX dX3_longestOf_5 rfl ?_
  refine j_get hX fl_X3_34_5 dX3_longestOf_6 h_P (by rfl) ?_
  refine j_icmp_ge hX 21 dX3_longestOf_9 (by decide) (by omega) (by omega) (fun c9 => absurd c9 (by omega)) (fun c9 => ?_)
  refine j_aload_n hX dX3_longestOf_12 rfl ?_
  refine j_get hX fl_X3_9_5 dX3_longestOf_13 h_P (by rfl) ?_
  refine j_iload_n hX dX3_longestOf_16 rfl ?_
  refine j_laldN hX _ rfl dX3_longestOf_17 h_b7 (by omega) (by decide) ?_
  refine j_goto hX 24 dX3_longestOf_18 (by decide) ?_
  exact j_lret hX hR dX3_longestOf_24 ⟨rfl, rfl⟩
set_option maxRecDepth 100000 in
set_option maxHeartbeats 4000000 in
theorem c_hasMore {l : Launch} {G : Gt} {B : Nat} {h : hF} {AD : Nat → Nat} {kn ct en : Int} {F : St} (hP : PS G h AD kn ct en F) {n : Nat} (hct : ct = (n : Int)) (hn3 : n ≤ 3) (hen : 0 ≤ en ∧ en ≤ 180) (hb12 : ∀ i : Nat, i < n → 0 ≤ F 12 i ∧ F 12 i ≤ 1000000) : Ct l G B yX3_hasMore cX3_hasMore 2 (some .boolean) 0 0 0 [.ref (AD 6)] h (fun v h' => (∃ y : Int, v = .int (iZ y) ∧ flg y (∃ i : Nat, i < n ∧ F 12 i < en)) ∧ h = h') := by
  refine Ct.of (by decide) (Nat.le_of_ble_eq_true rfl) ?_
  intro p e s m9 below meth c A hX hR hin
  have h_P := hP.1
  have h_b7 := hP.b7
  have h_b8 := hP.b8
  have h_b9 := hP.b9
  have h_b10 := hP.b10
  have h_b11 := hP.b11
  have h_b12 := hP.b12
  have h_b13 := hP.b13
  subst hct
  refine J_abs (J0 := J p l e _ s m9 _ below meth c _ _ G A) ?_
  intro JX hji hjo
  have lp : ∀ (d i : Nat), d + i = n → (∀ j : Nat, j < i → en ≤ F 12 j) → JX 0 0 2 [(0, .ref (AD 6)), (1, .int (iZ ((i : Nat) : Int)))] [] h := by
    intro d
    induction d with
    | zero =>
      intro i hd hx
      refine hji ?_
      refine j_iload_n hX dX3_hasMore_2 rfl ?_
      refine j_aload_n hX dX3_hasMore_3 rfl ?_
      refine j_get hX fl_X3_34_5 dX3_hasMore_4 h_P (by rfl) ?_
      refine j_icmp_ge hX 33 dX3_hasMore_7 (by decide) (by omega) (by omega) (fun c7 => ?_) (fun c7 => absurd c7 (by omega))
      refine j_iconst hX dX3_hasMore_33 ?_
      exact j_zret hX hR dX3_hasMore_34 (by omega) ⟨⟨0, rfl, Or.inr ⟨rfl, fun ⟨j, j1, j2⟩ => by have := hx j (by omega); omega⟩⟩, rfl⟩
    | succ d ih =>
      intro i hd hx
      have hib := hb12 i (by omega)
      refine hji ?_
      refine j_iload_n hX dX3_hasMore_2 rfl ?_
      refine j_aload_n hX dX3_hasMore_3 rfl ?_
      refine j_get hX fl_X3_34_5 dX3_hasMore_4 h_P (by rfl) ?_
      refine j_icmp_ge hX 33 dX3_hasMore_7 (by decide) (by omega) (by omega) (fun c7 => absurd c7 (by omega)) (fun c7 => ?_)
      refine j_aload_n hX dX3_hasMore_10 rfl ?_
      refine j_get hX fl_X3_28_5 dX3_hasMore_11 h_P (by rfl) ?_
      refine j_iload_n hX dX3_hasMore_14 rfl ?_
      refine j_laldN hX _ rfl dX3_hasMore_15 h_b12 (by omega) (by decide) ?_
      refine j_aload_n hX dX3_hasMore_16 rfl ?_
      refine j_get hX fl_X3_91_5 dX3_hasMore_17 h_P (by rfl) ?_
      refine j_i2l hX dX3_hasMore_20 (by omega) ?_
      refine j_lcmp_ge hX 27 dX3_hasMore_21 dX3_hasMore_22 (by decide) (by omega) (by omega) (fun c21 => ?_) (fun c21 => ?_)
      · refine j_iinc hX dX3_hasMore_27 rfl (by decide) ?_
        refine j_goto hX 2 dX3_hasMore_30 (by decide) ?_
        exact j_at (L' := [(0, .ref (AD 6)), (1, .int (iZ (((i + 1) : Nat) : Int)))]) (hjo (ih (i + 1) (by omega) (fun j j1 => by by_cases e : j = i; subst e; omega; exact hx j (by omega)))) ⟨rfl, rfl, trivial⟩
      · refine j_iconst hX dX3_hasMore_25 ?_
        exact j_zret hX hR dX3_hasMore_26 (by omega) ⟨⟨1, rfl, Or.inl ⟨rfl, i, by omega, by omega⟩⟩, rfl⟩
  refine hji ?_
  refine j_iconst hX dX3_hasMore_0 ?_
  refine j_istore_n hX dX3_hasMore_1 (by decide) ?_
  exact j_at (L' := [(0, .ref (AD 6)), (1, .int (iZ ((0 : Nat) : Int)))]) (hjo (lp n 0 (by omega) (fun j j1 => by omega))) ⟨rfl, rfl, trivial⟩
set_option maxRecDepth 100000 in
set_option maxHeartbeats 4000000 in
theorem c_goesBefore {l : Launch} {G : Gt} {B : Nat} {h : hF} {AD : Nat → Nat} {kn ct en : Int} {F : St} (hP : PS G h AD kn ct en F) {i j : Nat} (hi : i < 3) (hj : j < 3) (hr : (0 ≤ F 8 i ∧ F 8 i ≤ 255) ∧ (0 ≤ F 8 j ∧ F 8 j ≤ 255)) (ho : (0 ≤ F 12 i ∧ F 12 i ≤ 1000000) ∧ (0 ≤ F 12 j ∧ F 12 j ≤ 1000000)) : Ct l G B yX3_goesBefore cX3_goesBefore 3 (some .boolean) 0 0 0 [.ref (AD 6), .int (iZ (i : Int)), .int (iZ (j : Int))] h (fun v h' => (∃ y : Int, v = .int (iZ y) ∧ ((y = 1 ∧ (F 8 j < F 8 i ∨ (F 8 i = F 8 j ∧ F 12 i < F 12 j))) ∨ (y = 0 ∧ ¬ (F 8 j < F 8 i ∨ (F 8 i = F 8 j ∧ F 12 i < F 12 j))))) ∧ h = h') := by
  refine Ct.of (by decide) (Nat.le_of_ble_eq_true rfl) ?_
  intro p e s m9 below meth c A hX hR hin
  have h_P := hP.1
  have h_b7 := hP.b7
  have h_b8 := hP.b8
  have h_b9 := hP.b9
  have h_b10 := hP.b10
  have h_b11 := hP.b11
  have h_b12 := hP.b12
  have h_b13 := hP.b13
  refine j_aload_n hX dX3_goesBefore_0 rfl ?_
  refine j_get hX fl_X3_15_5 dX3_goesBefore_1 h_P (by rfl) ?_
  refine j_iload_n hX dX3_goesBefore_4 rfl ?_
  refine j_ialdN hX _ rfl dX3_goesBefore_5 h_b8 (by omega) (by decide) ?_
  refine j_aload_n hX dX3_goesBefore_6 rfl ?_
  refine j_get hX fl_X3_15_5 dX3_goesBefore_7 h_P (by rfl) ?_
  refine j_iload_n hX dX3_goesBefore_10 rfl ?_
  refine j_ialdN hX _ rfl dX3_goesBefore_11 h_b8 (by omega) (by decide) ?_
  refine j_icmp_eq hX 36 dX3_goesBefore_12 (by decide) (by omega) (by omega) (fun c12 => ?_) (fun c12 => ?_)
  · refine j_aload_n hX dX3_goesBefore_36 rfl ?_
    refine j_get hX fl_X3_28_5 dX3_goesBefore_37 h_P (by rfl) ?_
    refine j_iload_n hX dX3_goesBefore_40 rfl ?_
    refine j_laldN hX _ rfl dX3_goesBefore_41 h_b12 (by omega) (by decide) ?_
    refine j_aload_n hX dX3_goesBefore_42 rfl ?_
    refine j_get hX fl_X3_28_5 dX3_goesBefore_43 h_P (by rfl) ?_
    refine j_iload_n hX dX3_goesBefore_46 rfl ?_
    refine j_laldN hX _ rfl dX3_goesBefore_47 h_b12 (by omega) (by decide) ?_
    refine j_lcmp_ge hX 56 dX3_goesBefore_48 dX3_goesBefore_49 (by decide) (by omega) (by omega) (fun c48 => ?_) (fun c48 => ?_)
    · refine j_iconst hX dX3_goesBefore_56 ?_
      exact j_zret hX hR dX3_goesBefore_57 (by omega) ⟨⟨_, rfl, by omega⟩, rfl⟩
    · refine j_iconst hX dX3_goesBefore_52 ?_
      refine j_goto hX 57 dX3_goesBefore_53 (by decide) ?_
      exact j_zret hX hR dX3_goesBefore_57 (by omega) ⟨⟨_, rfl, by omega⟩, rfl⟩
  · refine j_aload_n hX dX3_goesBefore_15 rfl ?_
    refine j_get hX fl_X3_15_5 dX3_goesBefore_16 h_P (by rfl) ?_
    refine j_iload_n hX dX3_goesBefore_19 rfl ?_
    refine j_ialdN hX _ rfl dX3_goesBefore_20 h_b8 (by omega) (by decide) ?_
    refine j_aload_n hX dX3_goesBefore_21 rfl ?_
    refine j_get hX fl_X3_15_5 dX3_goesBefore_22 h_P (by rfl) ?_
    refine j_iload_n hX dX3_goesBefore_25 rfl ?_
    refine j_ialdN hX _ rfl dX3_goesBefore_26 h_b8 (by omega) (by decide) ?_
    refine j_icmp_le hX 34 dX3_goesBefore_27 (by decide) (by omega) (by omega) (fun c27 => ?_) (fun c27 => ?_)
    · refine j_iconst hX dX3_goesBefore_34 ?_
      exact j_zret hX hR dX3_goesBefore_35 (by omega) ⟨⟨_, rfl, by omega⟩, rfl⟩
    · refine j_iconst hX dX3_goesBefore_30 ?_
      refine j_goto hX 35 dX3_goesBefore_31 (by decide) ?_
      exact j_zret hX hR dX3_goesBefore_35 (by omega) ⟨⟨_, rfl, by omega⟩, rfl⟩
set_option maxRecDepth 100000 in
set_option maxHeartbeats 4000000 in
theorem c_chosenAt {l : Launch} {G : Gt} {B : Nat} {h : hF} {AD : Nat → Nat} {kn ct en : Int} {F : St} (hP : PS G h AD kn ct en F) {n : Nat} (hct : ct = (n : Int)) (hn3 : n ≤ 3) {σ : St} {O : Nat → Int} {k : Nat} (hk : k ≤ 100000) (hz0 : ∀ i : Nat, i < n → (F 8 i = σ 2 (i + 1) ∧ 0 ≤ σ 2 (i + 1) ∧ σ 2 (i + 1) ≤ 255) ∧ F 12 i = O (i + 1) ∧ 0 ≤ O (i + 1) ∧ O (i + 1) ≤ 1000000) : Ct l G B yX3_chosenAt cX3_chosenAt 4 (some .int) 1 0 0 [.ref (AD 6), .int (iZ (k : Int))] h (fun v h' => v = .int (iZ ((chF σ O (k : Int) n : Int) - 1)) ∧ h = h') := by
  refine Ct.of (by decide) (Nat.le_of_ble_eq_true rfl) ?_
  intro p e s m9 below meth c A hX hR hin
  have h_P := hP.1
  have h_b7 := hP.b7
  have h_b8 := hP.b8
  have h_b9 := hP.b9
  have h_b10 := hP.b10
  have h_b11 := hP.b11
  have h_b12 := hP.b12
  have h_b13 := hP.b13
  subst hct
  refine J_abs (J0 := J p l e _ s m9 _ below meth c _ _ G A) ?_
  intro JX hji hjo
  have lp : ∀ (d i bs : Nat), d + i = n → bs = chF σ O (k : Int) i → JX 0 0 4 [(0, .ref (AD 6)), (1, .int (iZ (k : Int))), (2, .int (iZ (((bs : Nat) : Int) - 1))), (3, .int (iZ ((i : Nat) : Int)))] [] h := by
    intro d
    induction d with
    | zero =>
      intro i bs hd hbs
      refine hji ?_
      refine j_iload_n hX dX3_chosenAt_4 rfl ?_
      refine j_aload_n hX dX3_chosenAt_5 rfl ?_
      refine j_get hX fl_X3_34_5 dX3_chosenAt_6 h_P (by rfl) ?_
      refine j_icmp_ge hX 45 dX3_chosenAt_9 (by decide) (by omega) (by omega) (fun c9 => ?_) (fun c9 => absurd c9 (by omega))
      refine j_iload_n hX dX3_chosenAt_45 rfl ?_
      exact j_iret hX hR dX3_chosenAt_46 ⟨by rw [hbs, show i = n by omega], rfl⟩
    | succ d ih =>
      intro i bs hd hbs
      have hbl := chF_le σ O (k : Int) i
      rw [← hbs] at hbl
      obtain ⟨z1, z2, z3⟩ := hz0 i (by omega)
      have hcs : chF σ O (k : Int) (i + 1) = if O (i + 1) ≤ (k : Int) ∧ (bs = 0 ∨ σ 2 bs < σ 2 (i + 1) ∨ (σ 2 (i + 1) = σ 2 bs ∧ O (i + 1) < O bs)) then i + 1 else bs := by rw [hbs]; rfl
      refine hji ?_
      refine j_iload_n hX dX3_chosenAt_4 rfl ?_
      refine j_aload_n hX dX3_chosenAt_5 rfl ?_
      refine j_get hX fl_X3_34_5 dX3_chosenAt_6 h_P (by rfl) ?_
      refine j_icmp_ge hX 45 dX3_chosenAt_9 (by decide) (by omega) (by omega) (fun c9 => absurd c9 (by omega)) (fun c9 => ?_)
      refine j_aload_n hX dX3_chosenAt_12 rfl ?_
      refine j_get hX fl_X3_28_5 dX3_chosenAt_13 h_P (by rfl) ?_
      refine j_iload_n hX dX3_chosenAt_16 rfl ?_
      refine j_laldN hX _ rfl dX3_chosenAt_17 h_b12 (by omega) (by decide) ?_
      refine j_iload_n hX dX3_chosenAt_18 rfl ?_
      refine j_i2l hX dX3_chosenAt_19 (by omega) ?_
      refine j_lcmp_gt hX 39 dX3_chosenAt_20 dX3_chosenAt_21 (by decide) (by omega) (by omega) (fun c20 => ?_) (fun c20 => ?_)
      · refine j_iinc hX dX3_chosenAt_39 rfl (by decide) ?_
        refine j_goto hX 4 dX3_chosenAt_42 (by decide) ?_
        exact j_at (L' := [(0, .ref (AD 6)), (1, .int (iZ (k : Int))), (2, .int (iZ (((bs : Nat) : Int) - 1))), (3, .int (iZ (((i + 1) : Nat) : Int)))]) (hjo (ih (i + 1) bs (by omega) (by rw [hcs, if_neg (by omega)]))) ⟨rfl, rfl, rfl, rfl, trivial⟩
      · refine j_iload_n hX dX3_chosenAt_24 rfl ?_
        refine j_if_lt hX 37 dX3_chosenAt_25 (by decide) (by omega) (fun c25 => ?_) (fun c25 => ?_)
        · refine j_iload_n hX dX3_chosenAt_37 rfl ?_
          refine j_istore_n hX dX3_chosenAt_38 (by decide) ?_
          refine j_iinc hX dX3_chosenAt_39 rfl (by decide) ?_
          refine j_goto hX 4 dX3_chosenAt_42 (by decide) ?_
          exact j_at (L' := [(0, .ref (AD 6)), (1, .int (iZ (k : Int))), (2, .int (iZ ((((i + 1) : Nat) : Int) - 1))), (3, .int (iZ (((i + 1) : Nat) : Int)))]) (hjo (ih (i + 1) (i + 1) (by omega) (by rw [hcs, if_pos (by omega)]))) ⟨rfl, rfl, by show some (Value.int (iZ (i : Int))) = some (Value.int (iZ (((i + 1 : Nat) : Int) - 1))); congr 3; omega, rfl, trivial⟩
        · obtain ⟨b9, rfl⟩ : ∃ b9, bs = b9 + 1 := ⟨bs - 1, by omega⟩
          rw [show (((b9 + 1 : Nat) : Int) - 1) = (b9 : Int) by omega]
          obtain ⟨y1, y2, y3⟩ := hz0 b9 (by omega)
          refine j_aload_n hX dX3_chosenAt_28 rfl ?_
          refine j_iload_n hX dX3_chosenAt_29 rfl ?_
          refine j_iload_n hX dX3_chosenAt_30 rfl ?_
          refine j_callV hX cv_X3_115 (c_goesBefore hP (i := i) (j := b9) (by omega) (by omega) ⟨by omega, by omega⟩ ⟨by omega, by omega⟩) dX3_chosenAt_31 h_P rfl rfl (by exact ⟨Nat.le_of_ble_eq_true rfl, Nat.le_of_ble_eq_true rfl⟩) (by exact ⟨Nat.le_of_ble_eq_true rfl, Nat.le_of_ble_eq_true rfl⟩) (by exact Nat.le_of_ble_eq_true rfl) (fun v31 h31 hp31 => ?_) rfl
          obtain ⟨⟨y31, rfl, hy31⟩, rfl⟩ := hp31
          refine j_if_eq hX 39 dX3_chosenAt_34 (by decide) (by omega) (fun c34 => ?_) (fun c34 => ?_)
          · refine j_iinc hX dX3_chosenAt_39 rfl (by decide) ?_
            refine j_goto hX 4 dX3_chosenAt_42 (by decide) ?_
            exact j_at (L' := [(0, .ref (AD 6)), (1, .int (iZ (k : Int))), (2, .int (iZ ((((b9 + 1) : Nat) : Int) - 1))), (3, .int (iZ (((i + 1) : Nat) : Int)))]) (hjo (ih (i + 1) (b9 + 1) (by omega) (by rw [hcs, if_neg (by omega)]))) ⟨rfl, rfl, by show some (Value.int (iZ (b9 : Int))) = some (Value.int (iZ (((b9 + 1 : Nat) : Int) - 1))); congr 3; omega, rfl, trivial⟩
          · refine j_iload_n hX dX3_chosenAt_37 rfl ?_
            refine j_istore_n hX dX3_chosenAt_38 (by decide) ?_
            refine j_iinc hX dX3_chosenAt_39 rfl (by decide) ?_
            refine j_goto hX 4 dX3_chosenAt_42 (by decide) ?_
            exact j_at (L' := [(0, .ref (AD 6)), (1, .int (iZ (k : Int))), (2, .int (iZ ((((i + 1) : Nat) : Int) - 1))), (3, .int (iZ (((i + 1) : Nat) : Int)))]) (hjo (ih (i + 1) (i + 1) (by omega) (by rw [hcs, if_pos (by omega)]))) ⟨rfl, rfl, by show some (Value.int (iZ (i : Int))) = some (Value.int (iZ (((i + 1 : Nat) : Int) - 1))); congr 3; omega, rfl, trivial⟩
  refine hji ?_
  refine j_iconst hX dX3_chosenAt_0 ?_
  refine j_istore_n hX dX3_chosenAt_1 (by decide) ?_
  refine j_iconst hX dX3_chosenAt_2 ?_
  refine j_istore_n hX dX3_chosenAt_3 (by decide) ?_
  exact j_at (L' := [(0, .ref (AD 6)), (1, .int (iZ (k : Int))), (2, .int (iZ (((0 : Nat) : Int) - 1))), (3, .int (iZ ((0 : Nat) : Int)))]) (hjo (lp n 0 0 (by omega) rfl)) ⟨rfl, rfl, rfl, rfl, trivial⟩
/-- what a microsecond does to the arrays -/
def wrk (en : Int) (i : Nat) (k : Int) (F : St) : St := if F 13 i - 1 = 0 then sup (sup (sup F 7 (if F 12 i < en then zup (F 7) i (mx2 (F 7 i) (k + 1 - F 12 i)) else F 7)) 12 (zup (F 12) i (F 12 i + F 10 i))) 13 (zup (F 13) i (F 9 i)) else sup F 13 (zup (F 13) i (F 13 i - 1))
set_option maxRecDepth 100000 in
set_option maxHeartbeats 4000000 in
theorem c_work {l : Launch} {G : Gt} {B : Nat} {h : hF} {AD : Nat → Nat} {kn ct en : Int} {F : St} (hP : PS G h AD kn ct en F) (hI9 : PI AD) {i k : Nat} (hi : i < 3) (hk : k ≤ 100000) (hb : (1 ≤ F 13 i ∧ F 13 i ≤ 1000) ∧ (0 ≤ F 12 i ∧ F 12 i ≤ 1000000) ∧ (0 ≤ F 7 i ∧ F 7 i ≤ 1000000)) (hen : 0 ≤ en ∧ en ≤ 180) : Cv l G B yX3_work cX3_work 3 1 0 0 [.ref (AD 6), .int (iZ (i : Int)), .int (iZ (k : Int))] h (fun h' => PS G h' AD kn ct en (wrk en i (k : Int) F) ∧ Fp h h' AD) := by
  refine Cv.of (by decide) (Nat.le_of_ble_eq_true rfl) ?_
  intro p e s m9 below meth c A hX hR hin
  have h_P := hP.1
  have h_b7 := hP.b7
  have h_b8 := hP.b8
  have h_b9 := hP.b9
  have h_b10 := hP.b10
  have h_b11 := hP.b11
  have h_b12 := hP.b12
  have h_b13 := hP.b13
  have hF0 := Fp.rf h AD
  refine j_aload_n hX dX3_work_0 rfl ?_
  refine j_get hX fl_X3_31_5 dX3_work_1 h_P (by rfl) ?_
  refine j_iload_n hX dX3_work_4 rfl ?_
  refine j_dup2 hX dX3_work_5 rfl rfl ?_
  refine j_laldN hX _ rfl dX3_work_6 h_b13 (by omega) (by decide) ?_
  refine j_lconst1 hX dX3_work_7 ?_
  refine j_lsub hX dX3_work_8 ?_
  refine j_lastN hX _ rfl dX3_work_9 h_b13 (by omega) (by decide) ?_
  have hP1 := hP.arr hI9 (k := 13) (by omega) (by omega) (zup (F 13) i (F 13 i - 1))
  have hF1 := hF0.up (k := 13) (by omega) (by omega) (gJ G 3 (zup (F 13) i (F 13 i - 1)))
  have h_P := hP1.1
  have h_b7 : _ = some (gJ G 3 (F 7)) := hP1.b7
  have h_b9 : _ = some (gJ G 3 (F 9)) := hP1.b9
  have h_b10 : _ = some (gJ G 3 (F 10)) := hP1.b10
  have h_b12 : _ = some (gJ G 3 (F 12)) := hP1.b12
  have h_b13 : _ = some (gJ G 3 ((zup (F 13) i (F 13 i - 1)))) := hP1.b13
  refine j_aload_n hX dX3_work_10 rfl ?_
  refine j_get hX fl_X3_31_5 dX3_work_11 h_P (by rfl) ?_
  refine j_iload_n hX dX3_work_14 rfl ?_
  refine j_laldN hX _ rfl dX3_work_15 h_b13 (by omega) (by decide) ?_
  rw [zup_eq]
  refine j_lconst0 hX dX3_work_16 ?_
  refine j_lcmp_ne hX 89 dX3_work_17 dX3_work_18 (by decide) (by omega) (by omega) (fun c17 => ?_) (fun c17 => ?_)
  · exact j_vret hX hR dX3_work_89 ⟨by have e9 : wrk en i (k : Int) F = sup F 13 (zup (F 13) i (F 13 i - 1)) := (by unfold wrk; rw [if_neg (by omega)]); rw [e9]; exact hP1, hF1⟩
  · refine j_aload_n hX dX3_work_21 rfl ?_
    refine j_get hX fl_X3_28_5 dX3_work_22 h_P (by rfl) ?_
    refine j_iload_n hX dX3_work_25 rfl ?_
    refine j_laldN hX _ rfl dX3_work_26 h_b12 (by omega) (by decide) ?_
    refine j_aload_n hX dX3_work_27 rfl ?_
    refine j_get hX fl_X3_91_5 dX3_work_28 h_P (by rfl) ?_
    refine j_i2l hX dX3_work_31 (by omega) ?_
    refine j_lcmp_ge hX 62 dX3_work_32 dX3_work_33 (by decide) (by omega) (by omega) (fun c32 => ?_) (fun c32 => ?_)
    · refine j_aload_n hX dX3_work_62 rfl ?_
      refine j_get hX fl_X3_28_5 dX3_work_63 h_P (by rfl) ?_
      refine j_iload_n hX dX3_work_66 rfl ?_
      refine j_dup2 hX dX3_work_67 rfl rfl ?_
      refine j_laldN hX _ rfl dX3_work_68 h_b12 (by omega) (by decide) ?_
      refine j_aload_n hX dX3_work_69 rfl ?_
      refine j_get hX fl_X3_22_5 dX3_work_70 h_P (by rfl) ?_
      refine j_iload_n hX dX3_work_73 rfl ?_
      refine j_laldN hX _ rfl dX3_work_74 h_b10 (by omega) (by decide) ?_
      refine j_ladd hX dX3_work_75 ?_
      refine j_lastN hX _ rfl dX3_work_76 h_b12 (by omega) (by decide) ?_
      have hP5 := hP1.arr hI9 (k := 12) (by omega) (by omega) (zup (F 12) i (F 12 i + F 10 i))
      have hF5 := hF1.up (k := 12) (by omega) (by omega) (gJ G 3 (zup (F 12) i (F 12 i + F 10 i)))
      have h_P := hP5.1
      have h_b7 : _ = some (gJ G 3 (F 7)) := hP5.b7
      have h_b9 : _ = some (gJ G 3 (F 9)) := hP5.b9
      have h_b10 : _ = some (gJ G 3 (F 10)) := hP5.b10
      have h_b12 : _ = some (gJ G 3 (zup (F 12) i (F 12 i + F 10 i))) := hP5.b12
      have h_b13 : _ = some (gJ G 3 ((zup (F 13) i (F 13 i - 1)))) := hP5.b13
      refine j_aload_n hX dX3_work_77 rfl ?_
      refine j_get hX fl_X3_31_5 dX3_work_78 h_P (by rfl) ?_
      refine j_iload_n hX dX3_work_81 rfl ?_
      refine j_aload_n hX dX3_work_82 rfl ?_
      refine j_get hX fl_X3_19_5 dX3_work_83 h_P (by rfl) ?_
      refine j_iload_n hX dX3_work_86 rfl ?_
      refine j_laldN hX _ rfl dX3_work_87 h_b9 (by omega) (by decide) ?_
      refine j_lastN hX _ rfl dX3_work_88 h_b13 (by omega) (by decide) ?_
      have hP6 := hP5.arr hI9 (k := 13) (by omega) (by omega) ((zup (zup (F 13) i (F 13 i - 1)) i (F 9 i)))
      have hF6 := hF5.up (k := 13) (by omega) (by omega) (gJ G 3 ((zup (zup (F 13) i (F 13 i - 1)) i (F 9 i))))
      exact j_vret hX hR dX3_work_89 ⟨by have e9 : wrk en i (k : Int) F = sup (sup (sup F 13 (zup (F 13) i (F 13 i - 1))) 12 (zup (F 12) i (F 12 i + F 10 i))) 13 (zup (zup (F 13) i (F 13 i - 1)) i (F 9 i)) := (by unfold wrk; rw [if_pos (by omega), if_neg (show ¬ F 12 i < en by omega), ← zup_zup (F 13) i (F 13 i - 1) (F 9 i)]; funext j; unfold sup; (repeat' split) <;> first | rfl | (exfalso; omega) | (congr 1; omega)); rw [e9]; exact hP6, hF6⟩
    · refine j_aload_n hX dX3_work_36 rfl ?_
      refine j_get hX fl_X3_9_5 dX3_work_37 h_P (by rfl) ?_
      refine j_iload_n hX dX3_work_40 rfl ?_
      refine j_aload_n hX dX3_work_41 rfl ?_
      refine j_get hX fl_X3_9_5 dX3_work_42 h_P (by rfl) ?_
      refine j_iload_n hX dX3_work_45 rfl ?_
      refine j_laldN hX _ rfl dX3_work_46 h_b7 (by omega) (by decide) ?_
      refine j_iload_n hX dX3_work_47 rfl ?_
      refine j_iconst hX dX3_work_48 ?_
      refine j_iadd hX dX3_work_49 ?_
      refine j_i2l hX dX3_work_50 (by omega) ?_
      refine j_aload_n hX dX3_work_51 rfl ?_
      refine j_get hX fl_X3_28_5 dX3_work_52 h_P (by rfl) ?_
      refine j_iload_n hX dX3_work_55 rfl ?_
      refine j_laldN hX _ rfl dX3_work_56 h_b12 (by omega) (by decide) ?_
      refine j_lsub hX dX3_work_57 ?_
      refine j_lmax hX mx_X3_96.1 mx_X3_96.2.1 mx_X3_96.2.2.1 mx_X3_96.2.2.2 dX3_work_58 (by omega) (by omega) (by exact ⟨Nat.le_of_ble_eq_true rfl, Nat.le_of_ble_eq_true rfl⟩) (by exact ⟨Nat.le_of_ble_eq_true rfl, Nat.le_of_ble_eq_true rfl⟩) ?_
      have emx : (if (k : Int) + 1 - F 12 i < F 7 i then F 7 i else (k : Int) + 1 - F 12 i) = mx2 (F 7 i) ((k : Int) + 1 - F 12 i) := by unfold mx2; split <;> split <;> omega
      rw [emx]
      refine j_lastN hX _ rfl dX3_work_61 h_b7 (by omega) (by decide) ?_
      have hP4 := hP1.arr hI9 (k := 7) (by omega) (by omega) (zup (F 7) i (mx2 (F 7 i) ((k : Int) + 1 - F 12 i)))
      have hF4 := hF1.up (k := 7) (by omega) (by omega) (gJ G 3 (zup (F 7) i (mx2 (F 7 i) ((k : Int) + 1 - F 12 i))))
      have h_P := hP4.1
      have h_b7 : _ = some (gJ G 3 (zup (F 7) i (mx2 (F 7 i) ((k : Int) + 1 - F 12 i)))) := hP4.b7
      have h_b9 : _ = some (gJ G 3 (F 9)) := hP4.b9
      have h_b10 : _ = some (gJ G 3 (F 10)) := hP4.b10
      have h_b12 : _ = some (gJ G 3 (F 12)) := hP4.b12
      have h_b13 : _ = some (gJ G 3 ((zup (F 13) i (F 13 i - 1)))) := hP4.b13
      refine j_aload_n hX dX3_work_62 rfl ?_
      refine j_get hX fl_X3_28_5 dX3_work_63 h_P (by rfl) ?_
      refine j_iload_n hX dX3_work_66 rfl ?_
      refine j_dup2 hX dX3_work_67 rfl rfl ?_
      refine j_laldN hX _ rfl dX3_work_68 h_b12 (by omega) (by decide) ?_
      refine j_aload_n hX dX3_work_69 rfl ?_
      refine j_get hX fl_X3_22_5 dX3_work_70 h_P (by rfl) ?_
      refine j_iload_n hX dX3_work_73 rfl ?_
      refine j_laldN hX _ rfl dX3_work_74 h_b10 (by omega) (by decide) ?_
      refine j_ladd hX dX3_work_75 ?_
      refine j_lastN hX _ rfl dX3_work_76 h_b12 (by omega) (by decide) ?_
      have hP5 := hP4.arr hI9 (k := 12) (by omega) (by omega) (zup (F 12) i (F 12 i + F 10 i))
      have hF5 := hF4.up (k := 12) (by omega) (by omega) (gJ G 3 (zup (F 12) i (F 12 i + F 10 i)))
      have h_P := hP5.1
      have h_b7 : _ = some (gJ G 3 (zup (F 7) i (mx2 (F 7 i) ((k : Int) + 1 - F 12 i)))) := hP5.b7
      have h_b9 : _ = some (gJ G 3 (F 9)) := hP5.b9
      have h_b10 : _ = some (gJ G 3 (F 10)) := hP5.b10
      have h_b12 : _ = some (gJ G 3 (zup (F 12) i (F 12 i + F 10 i))) := hP5.b12
      have h_b13 : _ = some (gJ G 3 ((zup (F 13) i (F 13 i - 1)))) := hP5.b13
      refine j_aload_n hX dX3_work_77 rfl ?_
      refine j_get hX fl_X3_31_5 dX3_work_78 h_P (by rfl) ?_
      refine j_iload_n hX dX3_work_81 rfl ?_
      refine j_aload_n hX dX3_work_82 rfl ?_
      refine j_get hX fl_X3_19_5 dX3_work_83 h_P (by rfl) ?_
      refine j_iload_n hX dX3_work_86 rfl ?_
      refine j_laldN hX _ rfl dX3_work_87 h_b9 (by omega) (by decide) ?_
      refine j_lastN hX _ rfl dX3_work_88 h_b13 (by omega) (by decide) ?_
      have hP6 := hP5.arr hI9 (k := 13) (by omega) (by omega) ((zup (zup (F 13) i (F 13 i - 1)) i (F 9 i)))
      have hF6 := hF5.up (k := 13) (by omega) (by omega) (gJ G 3 ((zup (zup (F 13) i (F 13 i - 1)) i (F 9 i))))
      exact j_vret hX hR dX3_work_89 ⟨by have e9 : wrk en i (k : Int) F = sup (sup (sup (sup F 13 (zup (F 13) i (F 13 i - 1))) 7 (zup (F 7) i (mx2 (F 7 i) ((k : Int) + 1 - F 12 i)))) 12 (zup (F 12) i (F 12 i + F 10 i))) 13 (zup (zup (F 13) i (F 13 i - 1)) i (F 9 i)) := (by unfold wrk; rw [if_pos (by omega), if_pos (show F 12 i < en by omega), ← zup_zup (F 13) i (F 13 i - 1) (F 9 i)]; funext j; unfold sup; (repeat' split) <;> first | rfl | (exfalso; omega) | (congr 1; omega)); rw [e9]; exact hP6, hF6⟩
