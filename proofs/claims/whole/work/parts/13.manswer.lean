/-! THE REFERENCE: allAnswer, answer, load, busy, longer -/
theorem Ct.mono {l : Launch} {G : Gt} {B : Nat} {y : MethodName} {bytes : ByteArray} {maxL : Nat} {ret : Option FieldType} {d mc ms : Nat} {args : List Value} {h : hF} {post post' : Value → hF → Prop} (H : Ct l G B y bytes maxL ret d mc ms args h post) (hp : ∀ v h', post v h' → post' v h') : Ct l G B y bytes maxL ret d mc ms args h post' := by
  intro sz p e ha hc hk s m args' below hf happ hP hK
  obtain ⟨n, o, h1, h2, h3, ⟨⟨v, h', q1, q2, q3⟩, q4⟩⟩ := H sz p e ha hc hk s m args' below hf happ hP hK
  exact ⟨n, o, h1, h2, h3, ⟨v, h', q1, hp _ _ q2, q3⟩, q4⟩
def alU (σ : St) (n m t : Nat) : Prop := ∀ o : Nat, 1 ≤ o → o < t → (ansF σ n m o).1 ≠ -1
def allA (σ : St) (n m : Nat) : Prop := ∀ o : Nat, 1 ≤ o → o ≤ n → (ansF σ n m o).1 ≠ -1
theorem alU_all {σ : St} {n m t : Nat} (h : t = n + 1) : alU σ n m t ↔ allA σ n m := by
  subst h
  exact ⟨fun z o h1 h2 => z o h1 (by omega), fun z o h1 h2 => z o h1 (by omega)⟩
theorem alU_not {σ : St} {n m t : Nat} (h : t ≤ n + 1) (q : ¬ alU σ n m t) : ¬ allA σ n m := fun z => q (fun o h1 h2 => z o h1 (by omega))
theorem alU_step {σ : St} {n m t : Nat} (ht : 1 ≤ t) : alU σ n m (t + 1) ↔ alU σ n m t ∧ (ansF σ n m t).1 ≠ -1 := by
  constructor
  · intro z
    exact ⟨fun o h1 h2 => z o h1 (by omega), z t ht (by omega)⟩
  · rintro ⟨z1, z2⟩ o h1 h2
    by_cases e : o = t
    · subst e; exact z2
    · exact z1 o h1 (by omega)
def loT (σ : St) : Nat → Int
  | 0 => 0
  | o + 1 => loT σ o + loaI (σ 0 (o + 1)) (σ 6 (o + 1)) (σ 4 (o + 1)) (σ 1 (o + 1))
def loI (σ : St) : Nat → Int
  | 0 => 0
  | i + 1 => loI σ i + 1000000 * σ 12 (i + 1) / σ 13 (i + 1)
theorem loaI_b {own spin many per : Int} (h0 : 1 ≤ own ∧ own ≤ 1000) (h6 : 0 ≤ spin ∧ spin ≤ 1000) (h4 : 1 ≤ many ∧ many ≤ 20) (h1 : 1 ≤ per) : 0 ≤ loaI own spin many per ∧ loaI own spin many per ≤ 40000000000 := by
  have b3 := mulb (a := 1000000) (A := 1000000) (by omega) (show 0 ≤ many ∧ many ≤ 20 by omega)
  have b4 := mulb b3 (show 0 ≤ own + spin ∧ own + spin ≤ 2000 by omega)
  exact divb (A := 40000000000) (by omega) (show 0 < per by omega)
theorem loT_b {σ : St} {n m : Nat} (hO : OK n m σ) : ∀ o : Nat, o ≤ n → 0 ≤ loT σ o ∧ loT σ o ≤ (o : Int) * 40000000000
  | 0, _ => ⟨Int.le_refl 0, by show (0 : Int) ≤ _; omega⟩
  | o + 1, h => by
    have ih := loT_b hO o (by omega)
    obtain ⟨h0, h1, h2, h3, h4, h5, h6, -⟩ := hO.2.2.1 (o + 1) (by omega) h
    have := loaI_b h0 h6 h4 h1.1
    unfold loT
    omega
theorem loI_b {σ : St} {n m : Nat} (hO : OK n m σ) : ∀ i : Nat, i ≤ m → 0 ≤ loI σ i ∧ loI σ i ≤ (i : Int) * 1000000000
  | 0, _ => ⟨Int.le_refl 0, by show (0 : Int) ≤ _; omega⟩
  | i + 1, h => by
    have ih := loI_b hO i (by omega)
    obtain ⟨h0, h1⟩ := hO.2.2.2 (i + 1) (by omega) h
    have b := divb (a := 1000000 * σ 12 (i + 1)) (A := 1000000000) (by omega) (show 0 < σ 13 (i + 1) by omega)
    unfold loI
    omega
noncomputable def cntF (σ : St) (n m : Nat) : Nat → Int
  | 0 => 0
  | o + 1 => cntF σ n m o + if 0 ≤ (ansF σ n m (o + 1)).1 then 1 else 0
noncomputable def mxF (σ : St) (n m : Nat) : Nat → Int
  | 0 => 0
  | o + 1 => if mxF σ n m o < (ansF σ n m (o + 1)).1 then (ansF σ n m (o + 1)).1 else mxF σ n m o
noncomputable def busyF (σ : St) (n m : Nat) (side : Int) : Int := if side = 0 then loT σ n + loI σ m else if side = 1 then cntF σ n m n else mxF σ n m n
theorem ans_b {σ : St} {n m t : Nat} (hO : OK n m σ) (ht : 1 ≤ t ∧ t ≤ n) : -1 ≤ (ansF σ n m t).1 ∧ (ansF σ n m t).1 ≤ 20000 := by
  have h1 := (hO.2.2.1 t ht.1 ht.2).2.1
  rcases ansF_b σ n m t with h | h <;> omega
theorem cntF_b (σ : St) (n m : Nat) : ∀ o : Nat, 0 ≤ cntF σ n m o ∧ cntF σ n m o ≤ (o : Int)
  | 0 => ⟨Int.le_refl 0, Int.le_refl 0⟩
  | o + 1 => by
    have ih := cntF_b σ n m o
    unfold cntF
    split <;> omega
theorem mxF_b {σ : St} {n m : Nat} (hO : OK n m σ) : ∀ o : Nat, o ≤ n → 0 ≤ mxF σ n m o ∧ mxF σ n m o ≤ 20000
  | 0, _ => ⟨Int.le_refl 0, by show (0 : Int) ≤ 20000; omega⟩
  | o + 1, h => by
    have ih := mxF_b hO o (by omega)
    have := ans_b hO (t := o + 1) ⟨by omega, h⟩
    unfold mxF
    split <;> omega
set_option maxRecDepth 100000 in
set_option maxHeartbeats 4000000 in
theorem c6_allAnswer {l : Launch} {G : Gt} {B : Nat} {h : hF} {b : Nat} {A9 : Nat → Nat} {σ : St} {n m : Nat} {sp tu th : Int} (hM : Mo G h b A9 σ n m sp tu th) (hO : OK n m σ) : Ct l G B yX6_allAnswer cX6_allAnswer 3 (some .boolean) 4 0 0 [.ref b] h (fun v h' => (∃ x : Int, v = .int (iZ x) ∧ flg x (allA σ n m)) ∧ ∃ sp2 tu2 : Int, Mo G h' b A9 σ n m sp2 tu2 th ∧ Fm h h' b A9) := by
  refine Ct.of (by decide) (Nat.le_of_ble_eq_true rfl) ?_
  intro p e s m9 below meth c A hX hR hin
  have hn16 := hO.1
  have hm8 := hO.2.1
  refine J_abs (J0 := J p l e _ s m9 _ below meth c _ _ G A) ?_
  intro JX hji hjo
  have lp : ∀ (d t : Nat) (x sp1 tu1 : Int) (h1 : hF), d + t = n + 1 → 1 ≤ t → Mo G h1 b A9 σ n m sp1 tu1 th → Fm h h1 b A9 → flg x (alU σ n m t) → JX 0 0 4 [(0, .ref b), (1, .int (iZ x)), (2, .int (iZ ((t : Nat) : Int)))] [] h1 := by
    intro d
    induction d with
    | zero =>
      intro t x sp1 tu1 h1 hd ht hM1 hFm hx
      have h_M := hM1.1
      refine hji ?_
      refine j_iload_n hX dX6_allAnswer_4 rfl ?_
      refine j_aload_n hX dX6_allAnswer_5 rfl ?_
      refine j_get hX fl_X6_67_8 dX6_allAnswer_6 h_M (by rfl) ?_
      refine j_icmp_gt hX 38 dX6_allAnswer_9 (by decide) (by omega) (by omega) (fun c9 => ?_) (fun c9 => absurd c9 (by omega))
      refine j_iload_n hX dX6_allAnswer_38 rfl ?_
      exact j_zret hX hR dX6_allAnswer_39 (by rcases hx with ⟨z, _⟩ | ⟨z, _⟩ <;> omega) ⟨⟨x, rfl, hx.iff (alU_all (by omega))⟩, sp1, tu1, hM1, hFm⟩
    | succ d ih =>
      intro t x sp1 tu1 h1 hd ht hM1 hFm hx
      have h_M := hM1.1
      have hx1 : x = 0 ∨ x = 1 := by rcases hx with ⟨z, _⟩ | ⟨z, _⟩ <;> omega
      have hab := ans_b hO (t := t) ⟨ht, by omega⟩
      refine hji ?_
      refine j_iload_n hX dX6_allAnswer_4 rfl ?_
      refine j_aload_n hX dX6_allAnswer_5 rfl ?_
      refine j_get hX fl_X6_67_8 dX6_allAnswer_6 h_M (by rfl) ?_
      refine j_icmp_gt hX 38 dX6_allAnswer_9 (by decide) (by omega) (by omega) (fun c9 => absurd c9 (by omega)) (fun c9 => ?_)
      refine j_iload_n hX dX6_allAnswer_12 rfl ?_
      refine j_if_eq hX 38 dX6_allAnswer_13 (by decide) (by omega) (fun c13 => ?_) (fun c13 => ?_)
      · refine j_iload_n hX dX6_allAnswer_38 rfl ?_
        exact j_zret hX hR dX6_allAnswer_39 (by omega) ⟨⟨x, rfl, Or.inr ⟨by omega, alU_not (t := t) (by omega) (by rcases hx with ⟨z, _⟩ | ⟨_, z⟩; omega; exact z)⟩⟩, sp1, tu1, hM1, hFm⟩
      · refine j_aload_n hX dX6_allAnswer_16 rfl ?_
        refine j_iload_n hX dX6_allAnswer_17 rfl ?_
        refine j_callV hX cv_X6_129 (c6_search hM1 ⟨ht, by omega⟩ hO) dX6_allAnswer_18 h_M rfl rfl (by exact ⟨Nat.le_of_ble_eq_true rfl, Nat.le_of_ble_eq_true rfl⟩) (by exact ⟨Nat.le_of_ble_eq_true rfl, Nat.le_of_ble_eq_true rfl⟩) (by exact Nat.le_of_ble_eq_true rfl) (fun v18 h18 hp18 => ?_) rfl
        obtain ⟨rfl, sp2, tu2, hM2, hF2, hres⟩ := hp18
        have hxa : alU σ n m t := by rcases hx with ⟨_, z⟩ | ⟨z, _⟩; exact z; omega
        refine j_lconst0 hX dX6_allAnswer_21 ?_
        refine j_lcmp_lt hX 30 dX6_allAnswer_22 dX6_allAnswer_23 (by decide) (by omega) (by omega) (fun c22 => ?_) (fun c22 => ?_)
        · refine j_iconst hX dX6_allAnswer_30 ?_
          refine j_istore_n hX dX6_allAnswer_31 (by decide) ?_
          refine j_iinc hX dX6_allAnswer_32 rfl (by decide) ?_
          refine j_goto hX 4 dX6_allAnswer_35 (by decide) ?_
          exact j_at (L' := [(0, .ref b), (1, .int (iZ _)), (2, .int (iZ (((t + 1) : Nat) : Int)))]) (hjo (ih (t + 1) _ _ _ _ (by omega) (by omega) hM2 (hFm.tr hF2) (Or.inr ⟨rfl, fun z => ((alU_step ht).mp z).2 (by omega)⟩))) ⟨rfl, rfl, rfl, trivial⟩
        · refine j_iconst hX dX6_allAnswer_26 ?_
          refine j_goto hX 31 dX6_allAnswer_27 (by decide) ?_
          refine j_istore_n hX dX6_allAnswer_31 (by decide) ?_
          refine j_iinc hX dX6_allAnswer_32 rfl (by decide) ?_
          refine j_goto hX 4 dX6_allAnswer_35 (by decide) ?_
          exact j_at (L' := [(0, .ref b), (1, .int (iZ _)), (2, .int (iZ (((t + 1) : Nat) : Int)))]) (hjo (ih (t + 1) _ _ _ _ (by omega) (by omega) hM2 (hFm.tr hF2) (Or.inl ⟨rfl, (alU_step ht).mpr ⟨hxa, by omega⟩⟩))) ⟨rfl, rfl, rfl, trivial⟩
  refine hji ?_
  refine j_iconst hX dX6_allAnswer_0 ?_
  refine j_istore_n hX dX6_allAnswer_1 (by decide) ?_
  refine j_iconst hX dX6_allAnswer_2 ?_
  refine j_istore_n hX dX6_allAnswer_3 (by decide) ?_
  exact j_at (L' := [(0, .ref b), (1, .int (iZ 1)), (2, .int (iZ ((1 : Nat) : Int)))]) (hjo (lp n 1 1 sp tu h (by omega) (by omega) hM (Fm.rf h b A9) (Or.inl ⟨rfl, fun o h1 h2 => absurd h1 (by omega)⟩))) ⟨rfl, rfl, rfl, trivial⟩
set_option maxRecDepth 100000 in
set_option maxHeartbeats 4000000 in
theorem c6_load {l : Launch} {G : Gt} {B : Nat} {h : hF} {b : Nat} {A9 : Nat → Nat} {σ : St} {n m : Nat} {sp tu th : Int} (hM : Mo G h b A9 σ n m sp tu th) (hO : OK n m σ) : Ct l G B yX6_load cX6_load 4 (some .long) 1 0 0 [.ref b] h (fun v h' => v = .long (lZ (loT σ n + loI σ m)) ∧ h = h') := by
  refine Ct.of (by decide) (Nat.le_of_ble_eq_true rfl) ?_
  intro p e s m9 below meth c A hX hR hin
  have h_M := hM.1
  have h_a1 := hM.a1
  have h_a4 := hM.a4
  have h_a12 := hM.a12
  have h_a13 := hM.a13
  have hn16 := hO.1
  have hm8 := hO.2.1
  have hlT := loT_b hO
  have hlI := loI_b hO
  refine J_abs (J0 := J p l e _ s m9 _ below meth c _ _ G A) ?_
  intro JX hji hjo
  have li : ∀ (d o : Nat) (x : Int), d + o = m + 1 → 1 ≤ o → x = loT σ n + loI σ (o - 1) → JX 0 0 47 [(0, .ref b), (1, .long (lZ x)), (3, .int (iZ ((o : Nat) : Int)))] [] h := by
    intro d
    induction d with
    | zero =>
      intro o x hd ho hx
      refine hji ?_
      refine j_iload_n hX dX6_load_47 rfl ?_
      refine j_aload_n hX dX6_load_48 rfl ?_
      refine j_get hX fl_X6_90_8 dX6_load_49 h_M (by rfl) ?_
      refine j_icmp_gt hX 81 dX6_load_52 (by decide) (by omega) (by omega) (fun c52 => ?_) (fun c52 => absurd c52 (by omega))
      refine j_lload_n hX dX6_load_81 rfl ?_
      exact j_lret hX hR dX6_load_82 ⟨by rw [hx, show o - 1 = m by omega], rfl⟩
    | succ d ih =>
      intro o x hd ho hx
      obtain ⟨o1, rfl⟩ : ∃ o1, o = o1 + 1 := ⟨o - 1, by omega⟩
      obtain ⟨i0, i1⟩ := hO.2.2.2 (o1 + 1) (by omega) (by omega)
      refine hji ?_
      refine j_iload_n hX dX6_load_47 rfl ?_
      refine j_aload_n hX dX6_load_48 rfl ?_
      refine j_get hX fl_X6_90_8 dX6_load_49 h_M (by rfl) ?_
      refine j_icmp_gt hX 81 dX6_load_52 (by decide) (by omega) (by omega) (fun c52 => absurd c52 (by omega)) (fun c52 => ?_)
      refine j_lload_n hX dX6_load_55 rfl ?_
      refine j_ldc2 hX k_X6_142 (z := 1000000) (by decide) dX6_load_56 ?_
      refine j_aload_n hX dX6_load_59 rfl ?_
      refine j_get hX fl_X6_44_8 dX6_load_60 h_M (by rfl) ?_
      refine j_iload_n hX dX6_load_63 rfl ?_
      refine j_laldN hX _ rfl dX6_load_64 h_a12 (by omega) (by decide) ?_
      refine j_lmul hX dX6_load_65 ?_
      refine j_aload_n hX dX6_load_66 rfl ?_
      refine j_get hX fl_X6_47_8 dX6_load_67 h_M (by rfl) ?_
      refine j_iload_n hX dX6_load_70 rfl ?_
      refine j_laldN hX _ rfl dX6_load_71 h_a13 (by omega) (by decide) ?_
      refine j_ldiv hX dX6_load_72 (by omega) (by omega) ?_
      refine j_ladd hX dX6_load_73 ?_
      refine j_lstore_n hX dX6_load_74 (by decide) ?_
      refine j_iinc hX dX6_load_75 rfl (by decide) ?_
      refine j_goto hX 47 dX6_load_78 (by decide) ?_
      exact j_at (L' := [(0, .ref b), (1, .long (lZ _)), (3, .int (iZ (((o1 + 1 + 1) : Nat) : Int)))]) (hjo (ih (o1 + 1 + 1) _ (by omega) (by omega) (by rw [hx]; show _ = _ + (loI σ o1 + _); rw [show o1 + 1 - 1 = o1 by omega]; omega))) ⟨rfl, rfl, rfl, trivial⟩
  have lp : ∀ (d o : Nat) (x : Int), d + o = n + 1 → 1 ≤ o → x = loT σ (o - 1) → JX 0 0 4 [(0, .ref b), (1, .long (lZ x)), (3, .int (iZ ((o : Nat) : Int)))] [] h := by
    intro d
    induction d with
    | zero =>
      intro o x hd ho hx
      refine hji ?_
      refine j_iload_n hX dX6_load_4 rfl ?_
      refine j_aload_n hX dX6_load_5 rfl ?_
      refine j_get hX fl_X6_67_8 dX6_load_6 h_M (by rfl) ?_
      refine j_icmp_gt hX 45 dX6_load_9 (by decide) (by omega) (by omega) (fun c9 => ?_) (fun c9 => absurd c9 (by omega))
      refine j_iconst hX dX6_load_45 ?_
      refine j_istore_n hX dX6_load_46 (by decide) ?_
      exact j_at (L' := [(0, .ref b), (1, .long (lZ x)), (3, .int (iZ ((1 : Nat) : Int)))]) (hjo (li m 1 x (by omega) (by omega) (by rw [hx, show o - 1 = n by omega]; show _ = _ + 0; omega))) ⟨rfl, rfl, rfl, trivial⟩
    | succ d ih =>
      intro o x hd ho hx
      obtain ⟨o1, rfl⟩ : ∃ o1, o = o1 + 1 := ⟨o - 1, by omega⟩
      obtain ⟨a0, a1, a2, a3, a4, a5, a6, a7, a8, a9⟩ := hO.2.2.1 (o1 + 1) (by omega) (by omega)
      have m1 := mulb (a := 1000000) (A := 1000000) (by omega) (show 0 ≤ σ 4 (o1 + 1) ∧ σ 4 (o1 + 1) ≤ 20 by omega)
      have m2 := mulb m1 (show 0 ≤ cosT σ (o1 + 1) ∧ cosT σ (o1 + 1) ≤ 2000 by unfold cosT; omega)
      refine hji ?_
      refine j_iload_n hX dX6_load_4 rfl ?_
      refine j_aload_n hX dX6_load_5 rfl ?_
      refine j_get hX fl_X6_67_8 dX6_load_6 h_M (by rfl) ?_
      refine j_icmp_gt hX 45 dX6_load_9 (by decide) (by omega) (by omega) (fun c9 => absurd c9 (by omega)) (fun c9 => ?_)
      refine j_lload_n hX dX6_load_12 rfl ?_
      refine j_ldc2 hX k_X6_142 (z := 1000000) (by decide) dX6_load_13 ?_
      refine j_aload_n hX dX6_load_16 rfl ?_
      refine j_get hX fl_X6_23_8 dX6_load_17 h_M (by rfl) ?_
      refine j_iload_n hX dX6_load_20 rfl ?_
      refine j_ialdN hX _ rfl dX6_load_21 h_a4 (by omega) (by decide) ?_
      refine j_i2l hX dX6_load_22 (by omega) ?_
      refine j_lmul hX dX6_load_23 ?_
      refine j_aload_n hX dX6_load_24 rfl ?_
      refine j_iload_n hX dX6_load_25 rfl ?_
      refine j_callV hX cv_X6_101 (c6_cost hM ⟨by omega, by omega⟩ hO) dX6_load_26 h_M rfl rfl (by exact ⟨Nat.le_of_ble_eq_true rfl, Nat.le_of_ble_eq_true rfl⟩) (by exact ⟨Nat.le_of_ble_eq_true rfl, Nat.le_of_ble_eq_true rfl⟩) (by exact Nat.le_of_ble_eq_true rfl) (fun v26 h26 hp26 => ?_) rfl
      obtain ⟨rfl, rfl⟩ := hp26
      refine j_lmul hX dX6_load_29 ?_
      refine j_aload_n hX dX6_load_30 rfl ?_
      refine j_get hX fl_X6_13_8 dX6_load_31 h_M (by rfl) ?_
      refine j_iload_n hX dX6_load_34 rfl ?_
      refine j_laldN hX _ rfl dX6_load_35 h_a1 (by omega) (by decide) ?_
      refine j_ldiv hX dX6_load_36 (by omega) (by omega) ?_
      refine j_ladd hX dX6_load_37 ?_
      refine j_lstore_n hX dX6_load_38 (by decide) ?_
      refine j_iinc hX dX6_load_39 rfl (by decide) ?_
      refine j_goto hX 4 dX6_load_42 (by decide) ?_
      exact j_at (L' := [(0, .ref b), (1, .long (lZ _)), (3, .int (iZ (((o1 + 1 + 1) : Nat) : Int)))]) (hjo (ih (o1 + 1 + 1) _ (by omega) (by omega) (by rw [hx]; rfl))) ⟨rfl, rfl, rfl, trivial⟩
  refine hji ?_
  refine j_lconst0 hX dX6_load_0 ?_
  refine j_lstore_n hX dX6_load_1 (by decide) ?_
  refine j_iconst hX dX6_load_2 ?_
  refine j_istore_n hX dX6_load_3 (by decide) ?_
  exact j_at (L' := [(0, .ref b), (1, .long (lZ _)), (3, .int (iZ ((1 : Nat) : Int)))]) (hjo (lp n 1 _ (by omega) (by omega) rfl)) ⟨rfl, rfl, rfl, trivial⟩
set_option maxRecDepth 100000 in
set_option maxHeartbeats 4000000 in
theorem c6_busy {l : Launch} {G : Gt} {B : Nat} {h : hF} {b : Nat} {A9 : Nat → Nat} {σ : St} {n m : Nat} {sp tu th : Int} (hM : Mo G h b A9 σ n m sp tu th) (hO : OK n m σ) {side : Int} (hsd9 : -2147483648 ≤ side ∧ side < 2147483648) : Ct l G B yX6_busy cX6_busy 9 (some .long) 4 0 0 [.ref b, .int (iZ side)] h (fun v h' => v = .long (lZ (busyF σ n m side)) ∧ ∃ sp2 tu2 : Int, Mo G h' b A9 σ n m sp2 tu2 0 ∧ Fm h h' b A9) := by
  refine Ct.of (by decide) (Nat.le_of_ble_eq_true rfl) ?_
  intro p e s m9 below meth c A hX hR hin
  have hn16 := hO.1
  have hm8 := hO.2.1
  have h_M := hM.1
  refine J_abs (J0 := J p l e _ s m9 _ below meth c _ _ G A) ?_
  intro JX hji hjo
  have lp : ∀ (d t : Nat) (x y sp1 tu1 : Int) (h1 : hF), side ≠ 0 → d + t = n + 1 → 1 ≤ t → Mo G h1 b A9 σ n m sp1 tu1 0 → Fm h h1 b A9 → x = cntF σ n m (t - 1) → y = mxF σ n m (t - 1) → JX 0 0 22 [(0, .ref b), (1, .int (iZ side)), (2, .long (lZ x)), (4, .long (lZ y)), (6, .int (iZ ((t : Nat) : Int)))] [] h1 := by
    intro d
    induction d with
    | zero =>
      intro t x y sp1 tu1 h1 hsd hd ht hM1 hFm hx1 hx2
      have h_M := hM1.1
      refine hji ?_
      refine j_iload hX dX6_busy_22 rfl ?_
      refine j_aload_n hX dX6_busy_24 rfl ?_
      refine j_get hX fl_X6_67_8 dX6_busy_25 h_M (by rfl) ?_
      refine j_icmp_gt hX 77 dX6_busy_28 (by decide) (by omega) (by omega) (fun c28 => ?_) (fun c28 => absurd c28 (by omega))
      refine j_iload_n hX dX6_busy_77 rfl ?_
      refine j_iconst hX dX6_busy_78 ?_
      refine j_icmp_ne hX 86 dX6_busy_79 (by decide) (by omega) (by omega) (fun c79 => ?_) (fun c79 => ?_)
      · refine j_lload hX dX6_busy_86 rfl ?_
        exact j_lret hX hR dX6_busy_88 ⟨by unfold busyF; (repeat' split) <;> first | (exfalso; omega) | rfl | (rw [hx1, show t - 1 = n by omega]) | (rw [hx2, show t - 1 = n by omega]), sp1, tu1, hM1, hFm⟩
      · refine j_lload_n hX dX6_busy_82 rfl ?_
        refine j_goto hX 88 dX6_busy_83 (by decide) ?_
        exact j_lret hX hR dX6_busy_88 ⟨by unfold busyF; (repeat' split) <;> first | (exfalso; omega) | rfl | (rw [hx1, show t - 1 = n by omega]) | (rw [hx2, show t - 1 = n by omega]), sp1, tu1, hM1, hFm⟩
    | succ d ih =>
      intro t x y sp1 tu1 h1 hsd hd ht hM1 hFm hx1 hx2
      have h_M := hM1.1
      obtain ⟨o1, rfl⟩ : ∃ o1, t = o1 + 1 := ⟨t - 1, by omega⟩
      have hab := ans_b hO (t := o1 + 1) ⟨ht, by omega⟩
      have hcb := cntF_b σ n m o1
      have hmb := mxF_b hO o1 (by omega)
      rw [show o1 + 1 - 1 = o1 by omega] at hx1 hx2
      refine hji ?_
      refine j_iload hX dX6_busy_22 rfl ?_
      refine j_aload_n hX dX6_busy_24 rfl ?_
      refine j_get hX fl_X6_67_8 dX6_busy_25 h_M (by rfl) ?_
      refine j_icmp_gt hX 77 dX6_busy_28 (by decide) (by omega) (by omega) (fun c28 => absurd c28 (by omega)) (fun c28 => ?_)
      refine j_aload_n hX dX6_busy_31 rfl ?_
      refine j_iload hX dX6_busy_32 rfl ?_
      refine j_callV hX cv_X6_129 (c6_search hM1 ⟨ht, by omega⟩ hO) dX6_busy_34 h_M rfl rfl (by exact ⟨Nat.le_of_ble_eq_true rfl, Nat.le_of_ble_eq_true rfl⟩) (by exact ⟨Nat.le_of_ble_eq_true rfl, Nat.le_of_ble_eq_true rfl⟩) (by exact Nat.le_of_ble_eq_true rfl) (fun v34 h34 hp34 => ?_) rfl
      obtain ⟨rfl, sp2, tu2, hM2, hF2, hres⟩ := hp34
      refine j_lstore hX dX6_busy_37 (by decide) ?_
      refine j_lload_n hX dX6_busy_39 rfl ?_
      refine j_lload hX dX6_busy_40 rfl ?_
      refine j_lconst0 hX dX6_busy_42 ?_
      refine j_lcmp_lt hX 51 dX6_busy_43 dX6_busy_44 (by decide) (by omega) (by omega) (fun c43 => ?_) (fun c43 => ?_)
      · refine j_lconst0 hX dX6_busy_51 ?_
        refine j_ladd hX dX6_busy_52 ?_
        refine j_lstore_n hX dX6_busy_53 (by decide) ?_
        refine j_lload hX dX6_busy_54 rfl ?_
        refine j_lload hX dX6_busy_56 rfl ?_
        refine j_lcmp_le hX 67 dX6_busy_58 dX6_busy_59 (by decide) (by omega) (by omega) (fun c58 => ?_) (fun c58 => ?_)
        · refine j_lload hX dX6_busy_67 rfl ?_
          refine j_lstore hX dX6_busy_69 (by decide) ?_
          refine j_iinc hX dX6_busy_71 rfl (by decide) ?_
          refine j_goto hX 22 dX6_busy_74 (by decide) ?_
          exact j_at (L' := [(0, .ref b), (1, .int (iZ side)), (2, .long (lZ _)), (4, .long (lZ _)), (6, .int (iZ (((o1 + 1 + 1) : Nat) : Int)))]) (hjo (ih (o1 + 1 + 1) _ _ _ _ _ hsd (by omega) (by omega) hM2 (hFm.tr hF2) (by show _ = cntF σ n m o1 + _; split <;> omega) (by show _ = (if mxF σ n m o1 < _ then _ else _); split <;> omega))) ⟨rfl, rfl, rfl, rfl, rfl, trivial⟩
        · refine j_lload hX dX6_busy_62 rfl ?_
          refine j_goto hX 69 dX6_busy_64 (by decide) ?_
          refine j_lstore hX dX6_busy_69 (by decide) ?_
          refine j_iinc hX dX6_busy_71 rfl (by decide) ?_
          refine j_goto hX 22 dX6_busy_74 (by decide) ?_
          exact j_at (L' := [(0, .ref b), (1, .int (iZ side)), (2, .long (lZ _)), (4, .long (lZ _)), (6, .int (iZ (((o1 + 1 + 1) : Nat) : Int)))]) (hjo (ih (o1 + 1 + 1) _ _ _ _ _ hsd (by omega) (by omega) hM2 (hFm.tr hF2) (by show _ = cntF σ n m o1 + _; split <;> omega) (by show _ = (if mxF σ n m o1 < _ then _ else _); split <;> omega))) ⟨rfl, rfl, rfl, rfl, rfl, trivial⟩
      · refine j_lconst1 hX dX6_busy_47 ?_
        refine j_goto hX 52 dX6_busy_48 (by decide) ?_
        refine j_ladd hX dX6_busy_52 ?_
        refine j_lstore_n hX dX6_busy_53 (by decide) ?_
        refine j_lload hX dX6_busy_54 rfl ?_
        refine j_lload hX dX6_busy_56 rfl ?_
        refine j_lcmp_le hX 67 dX6_busy_58 dX6_busy_59 (by decide) (by omega) (by omega) (fun c58 => ?_) (fun c58 => ?_)
        · refine j_lload hX dX6_busy_67 rfl ?_
          refine j_lstore hX dX6_busy_69 (by decide) ?_
          refine j_iinc hX dX6_busy_71 rfl (by decide) ?_
          refine j_goto hX 22 dX6_busy_74 (by decide) ?_
          exact j_at (L' := [(0, .ref b), (1, .int (iZ side)), (2, .long (lZ _)), (4, .long (lZ _)), (6, .int (iZ (((o1 + 1 + 1) : Nat) : Int)))]) (hjo (ih (o1 + 1 + 1) _ _ _ _ _ hsd (by omega) (by omega) hM2 (hFm.tr hF2) (by show _ = cntF σ n m o1 + _; split <;> omega) (by show _ = (if mxF σ n m o1 < _ then _ else _); split <;> omega))) ⟨rfl, rfl, rfl, rfl, rfl, trivial⟩
        · refine j_lload hX dX6_busy_62 rfl ?_
          refine j_goto hX 69 dX6_busy_64 (by decide) ?_
          refine j_lstore hX dX6_busy_69 (by decide) ?_
          refine j_iinc hX dX6_busy_71 rfl (by decide) ?_
          refine j_goto hX 22 dX6_busy_74 (by decide) ?_
          exact j_at (L' := [(0, .ref b), (1, .int (iZ side)), (2, .long (lZ _)), (4, .long (lZ _)), (6, .int (iZ (((o1 + 1 + 1) : Nat) : Int)))]) (hjo (ih (o1 + 1 + 1) _ _ _ _ _ hsd (by omega) (by omega) hM2 (hFm.tr hF2) (by show _ = cntF σ n m o1 + _; split <;> omega) (by show _ = (if mxF σ n m o1 < _ then _ else _); split <;> omega))) ⟨rfl, rfl, rfl, rfl, rfl, trivial⟩
  refine hji ?_
  refine j_aload_n hX dX6_busy_0 rfl ?_
  refine j_iconst hX dX6_busy_1 ?_
  refine j_putE hX fp_X6_63_8 dX6_busy_2 h_M rfl rfl (Nat.le_of_ble_eq_true rfl) (fs2 := (MF A9 n m sp tu 0)) rfl ?_
  have hM0 := hM.fld (n' := n) (m' := m) (sp' := sp) (tu' := tu) (th' := 0)
  have h_M := hM0.1
  have hF0 : Fm h _ b A9 := (Fm.rf h b A9).b (.inr (8, MF A9 n m sp tu 0))
  refine j_iload_n hX dX6_busy_5 rfl ?_
  refine j_if_ne hX 14 dX6_busy_6 (by decide) (by omega) (fun c6 => ?_) (fun c6 => ?_)
  · refine j_lconst0 hX dX6_busy_14 ?_
    refine j_lstore_n hX dX6_busy_15 (by decide) ?_
    refine j_lconst0 hX dX6_busy_16 ?_
    refine j_lstore hX dX6_busy_17 (by decide) ?_
    refine j_iconst hX dX6_busy_19 ?_
    refine j_istore hX dX6_busy_20 (by decide) ?_
    exact j_at (L' := [(0, .ref b), (1, .int (iZ side)), (2, .long (lZ _)), (4, .long (lZ _)), (6, .int (iZ ((1 : Nat) : Int)))]) (hjo (lp n 1 _ _ sp tu _ (by omega) (by omega) (by omega) hM0 hF0 rfl rfl)) ⟨rfl, rfl, rfl, rfl, rfl, trivial⟩
  · refine j_aload_n hX dX6_busy_9 rfl ?_
    refine j_callV hX cv_X6_144 (c6_load hM0 hO) dX6_busy_10 h_M rfl rfl (by exact ⟨Nat.le_of_ble_eq_true rfl, Nat.le_of_ble_eq_true rfl⟩) (by exact ⟨Nat.le_of_ble_eq_true rfl, Nat.le_of_ble_eq_true rfl⟩) (by exact Nat.le_of_ble_eq_true rfl) (fun v10 h10 hp10 => ?_) rfl
    obtain ⟨rfl, rfl⟩ := hp10
    exact j_lret hX hR dX6_busy_13 ⟨by rw [busyF, if_pos (by omega)], sp, tu, hM0, hF0⟩
theorem c6_isTaskF {l : Launch} {G : Gt} {B : Nat} {h : hF} {b : Nat} {A9 : Nat → Nat} {σ : St} {n m : Nat} {sp tu th : Int} (hM : Mo G h b A9 σ n m sp tu th) (hn16 : n ≤ 16) {z : Int} (hz : -2147483648 ≤ z ∧ z < 2147483648) : Ct l G B yX6_isTask cX6_isTask 2 (some .boolean) 0 0 0 [.ref b, .int (iZ z)] h (fun v h' => (∃ y : Int, v = .int (iZ y) ∧ ((y = 1 ∧ 1 ≤ z ∧ z ≤ n) ∨ (y = 0 ∧ ¬ (1 ≤ z ∧ z ≤ n)))) ∧ h = h') := by
  refine Ct.mono (c6_isTask hM hn16 hz) (fun v h' hv => ⟨⟨_, hv.1, ?_⟩, hv.2⟩)
  split
  · exact Or.inl ⟨rfl, by omega, by omega⟩
  · exact Or.inr ⟨rfl, by omega⟩
theorem c6_withinF {l : Launch} {G : Gt} {B : Nat} {h : hF} {x lo hi : Int} (hx : -9223372036854775808 ≤ x ∧ x < 9223372036854775808) (hlo : -9223372036854775808 ≤ lo ∧ lo < 9223372036854775808) (hhi : -9223372036854775808 ≤ hi ∧ hi < 9223372036854775808) : Ct l G B yX6_within cX6_within 6 (some .boolean) 0 0 0 [.long (lZ x), .long (lZ lo), .long (lZ hi)] h (fun v h' => (∃ y : Int, v = .int (iZ y) ∧ ((y = 1 ∧ lo ≤ x ∧ x ≤ hi) ∨ (y = 0 ∧ ¬ (lo ≤ x ∧ x ≤ hi)))) ∧ h = h') := by
  refine Ct.mono (c6_within hx hlo hhi) (fun v h' hv => ⟨⟨_, hv.1, ?_⟩, hv.2⟩)
  split
  · exact Or.inl ⟨rfl, by omega, by omega⟩
  · exact Or.inr ⟨rfl, by omega⟩
noncomputable def ansV (σ : St) (n m : Nat) (z : Int) : Int := if 1 ≤ z ∧ z ≤ n then (ansF σ n m z.toNat).1 else -2
set_option maxRecDepth 100000 in
set_option maxHeartbeats 4000000 in
theorem c6_answer {l : Launch} {G : Gt} {B : Nat} {h : hF} {b : Nat} {A9 : Nat → Nat} {σ : St} {n m : Nat} {sp tu th : Int} (hM : Mo G h b A9 σ n m sp tu th) (hO : OK n m σ) {z : Int} (hz : -2147483648 ≤ z ∧ z < 2147483648) : Ct l G B yX6_answer cX6_answer 2 (some .long) 4 0 0 [.ref b, .int (iZ z)] h (fun v h' => v = .long (lZ (ansV σ n m z)) ∧ ∃ sp2 tu2 : Int, Mo G h' b A9 σ n m sp2 tu2 0 ∧ Fm h h' b A9) := by
  refine Ct.of (by decide) (Nat.le_of_ble_eq_true rfl) ?_
  intro p e s m9 below meth c A hX hR hin
  have hn16 := hO.1
  have hm8 := hO.2.1
  have h_M := hM.1
  refine j_aload_n hX dX6_answer_0 rfl ?_
  refine j_iconst hX dX6_answer_1 ?_
  refine j_putE hX fp_X6_63_8 dX6_answer_2 h_M rfl rfl (Nat.le_of_ble_eq_true rfl) (fs2 := (MF A9 n m sp tu 0)) rfl ?_
  have hM0 := hM.fld (n' := n) (m' := m) (sp' := sp) (tu' := tu) (th' := 0)
  have h_M := hM0.1
  have hF0 : Fm h _ b A9 := (Fm.rf h b A9).b (.inr (8, MF A9 n m sp tu 0))
  refine j_aload_n hX dX6_answer_5 rfl ?_
  refine j_iload_n hX dX6_answer_6 rfl ?_
  refine j_callV hX cv_X6_82 (c6_isTaskF hM0 (by omega) (by omega)) dX6_answer_7 h_M rfl rfl (by exact ⟨Nat.le_of_ble_eq_true rfl, Nat.le_of_ble_eq_true rfl⟩) (by exact ⟨Nat.le_of_ble_eq_true rfl, Nat.le_of_ble_eq_true rfl⟩) (by exact Nat.le_of_ble_eq_true rfl) (fun v7 h7 hp7 => ?_) rfl
  obtain ⟨⟨y7, rfl, hy7⟩, rfl⟩ := hp7
  refine j_if_eq hX 21 dX6_answer_10 (by decide) (by omega) (fun c10 => ?_) (fun c10 => ?_)
  · refine j_ldc2 hX k_X6_132 (z := -2) (by decide) dX6_answer_21 ?_
    exact j_lret hX hR dX6_answer_24 ⟨by rw [ansV, if_neg (by omega)], sp, tu, hM0, hF0⟩
  · obtain ⟨t, rfl⟩ : ∃ t : Nat, z = (t : Int) := ⟨z.toNat, by omega⟩
    refine j_aload_n hX dX6_answer_13 rfl ?_
    refine j_iload_n hX dX6_answer_14 rfl ?_
    refine j_callV hX cv_X6_129 (c6_search hM0 ⟨by omega, by omega⟩ hO) dX6_answer_15 h_M rfl rfl (by exact ⟨Nat.le_of_ble_eq_true rfl, Nat.le_of_ble_eq_true rfl⟩) (by exact ⟨Nat.le_of_ble_eq_true rfl, Nat.le_of_ble_eq_true rfl⟩) (by exact Nat.le_of_ble_eq_true rfl) (fun v15 h15 hp15 => ?_) rfl
    obtain ⟨rfl, sp2, tu2, hM2, hF2, hres⟩ := hp15
    refine j_goto hX 24 dX6_answer_18 (by decide) ?_
    exact j_lret hX hR dX6_answer_24 ⟨by rw [ansV, if_pos (by omega)]; rfl, sp2, tu2, hM2, hF0.tr hF2⟩
def ow (σ : St) (t : Nat) (x : Int) : St := sup σ 0 (zup (σ 0) t x)
theorem zup_zup (f : Nat → Int) (t : Nat) (x y : Int) : zup (zup f t x) t y = zup f t y := by
  funext j; unfold zup; split <;> rfl
theorem zup_id {f : Nat → Int} {t : Nat} {x : Int} (h : f t = x) : zup f t x = f := by
  funext j; unfold zup; split
  · rename_i e; rw [e, h]
  · rfl
theorem sup_id (σ : St) (k : Nat) : sup σ k (σ k) = σ := by
  funext j; unfold sup; split
  · rename_i e; rw [e]
  · rfl
theorem sup_sup (σ : St) (k : Nat) (f g : Nat → Int) : sup (sup σ k f) k g = sup σ k g := by
  funext j; unfold sup; split <;> rfl
theorem ow_at (σ : St) (t : Nat) (x : Int) : ow σ t x 0 t = x := by unfold ow; rw [sup_eq, zup_eq]
theorem ow_self (σ : St) (t : Nat) : ow σ t (σ 0 t) = σ := by unfold ow; rw [zup_id rfl, sup_id]
theorem ow_ow (σ : St) (t : Nat) (x y : Int) : sup (ow σ t x) 0 (zup (ow σ t x 0) t y) = ow σ t y := by unfold ow; rw [sup_sup, sup_eq, zup_zup]
theorem OK.own {n m : Nat} {σ : St} (hO : OK n m σ) {t : Nat} {x : Int} (hx : 1 ≤ x ∧ x ≤ 1000) : OK n m (ow σ t x) := by
  refine ⟨hO.1, hO.2.1, fun o h1 h2 => ?_, fun i h1 h2 => hO.2.2.2 i h1 h2⟩
  have h := hO.2.2.1 o h1 h2
  refine ⟨?_, h.2⟩
  unfold ow
  rw [sup_eq]
  unfold zup
  split
  · exact hx
  · exact h.1
noncomputable def lng (σ : St) (n m t : Nat) : Nat → Int → Int → Int
  | 0, low, _ => low
  | k + 1, low, high => if 1 < high - low then @ite _ (allA (ow σ t ((low + high) / 2)) n m) (Classical.propDecidable _) (lng σ n m t k ((low + high) / 2) high) (lng σ n m t k low ((low + high) / 2)) else low
noncomputable def lngF (σ : St) (n m : Nat) (z : Int) : Int := if 1 ≤ z ∧ z ≤ n then @ite _ (allA σ n m) (Classical.propDecidable _) (lng σ n m z.toNat 1001 (σ 0 z.toNat) 1001 - σ 0 z.toNat) (-1) else -2
set_option maxRecDepth 100000 in
set_option maxHeartbeats 4000000 in
theorem c6_longer {l : Launch} {G : Gt} {B : Nat} {h : hF} {b : Nat} {A9 : Nat → Nat} {σ : St} {n m : Nat} {sp tu th : Int} (hM : Mo G h b A9 σ n m sp tu th) (hO : OK n m σ) {z : Int} (hz : -2147483648 ≤ z ∧ z < 2147483648) : Ct l G B yX6_longer cX6_longer 8 (some .long) 5 0 0 [.ref b, .int (iZ z)] h (fun v h' => v = .long (lZ (lngF σ n m z)) ∧ ∃ sp2 tu2 : Int, Mo G h' b A9 σ n m sp2 tu2 0 ∧ Fm h h' b A9) := by
  refine Ct.of (by decide) (Nat.le_of_ble_eq_true rfl) ?_
  intro p e s m9 below meth c A hX hR hin
  have hn16 := hO.1
  have hm8 := hO.2.1
  have h_M := hM.1
  refine J_abs (J0 := J p l e _ s m9 _ below meth c _ _ G A) ?_
  intro JX hji hjo
  have lp : ∀ (t : Nat), 1 ≤ t ∧ t ≤ n → z = (t : Int) → allA σ n m → ∀ (k : Nat) (low high x sp1 tu1 : Int) (h1 : hF), high - low ≤ (k : Int) + 1 → 1 ≤ low → low < high → high ≤ 1001 → (1 ≤ x ∧ x ≤ 1000) → Mo G h1 b A9 (ow σ t x) n m sp1 tu1 0 → Fm h h1 b A9 → lng σ n m t k low high = lng σ n m t 1001 (σ 0 t) 1001 → JX 0 0 43 [(0, .ref b), (1, .int (iZ (t : Int))), (2, .long (lZ (σ 0 t))), (4, .long (lZ low)), (6, .long (lZ high))] [] h1 := by
    intro t ht hzt hal
    obtain ⟨o0, o1, o2, o3, o4, o5, o6, o7, o8, o9⟩ := hO.2.2.1 t ht.1 ht.2
    intro k
    induction k with
    | zero =>
      intro low high x sp1 tu1 h1 hk hlo hlh hhi hx hM1 hFm hs
      have h_M := hM1.1
      have h_a0 := hM1.a0
      refine hji ?_
      refine j_lload hX dX6_longer_43 rfl ?_
      refine j_lload hX dX6_longer_45 rfl ?_
      refine j_lsub hX dX6_longer_47 ?_
      refine j_lconst1 hX dX6_longer_48 ?_
      refine j_lcmp_le hX 97 dX6_longer_49 dX6_longer_50 (by decide) (by omega) (by omega) (fun c49 => ?_) (fun c49 => absurd c49 (by omega))
      refine j_aload_n hX dX6_longer_97 rfl ?_
      refine j_get hX fl_X6_7_8 dX6_longer_98 h_M (by rfl) ?_
      refine j_iload_n hX dX6_longer_101 rfl ?_
      refine j_lload_n hX dX6_longer_102 rfl ?_
      refine j_lastN hX _ rfl dX6_longer_103 h_a0 (by omega) (by decide) ?_
      have hM2 : Mo G (hup h1 (A9 0) (gJ G 17 (zup (ow σ t x 0) t (σ 0 t)))) b A9 σ n m sp1 tu1 0 := by have z9 := hM1.arr (k := 0) rfl (zup (ow σ t x 0) t (σ 0 t)); rw [ow_ow, ow_self] at z9; exact z9
      have hF2 := hFm.a (k := 0) rfl (gJ G 17 (zup (ow σ t x 0) t (σ 0 t)))
      refine j_lload hX dX6_longer_104 rfl ?_
      refine j_lload_n hX dX6_longer_106 rfl ?_
      refine j_lsub hX dX6_longer_107 ?_
      exact j_lret hX hR dX6_longer_108 ⟨by rw [lngF, if_pos (by omega), if_pos hal, hzt]; show _ = Value.long (lZ (lng σ n m t 1001 (σ 0 t) 1001 - σ 0 t)); rw [← hs]; rfl, sp1, tu1, hM2, hF2⟩
    | succ k ih =>
      intro low high x sp1 tu1 h1 hk hlo hlh hhi hx hM1 hFm hs
      have h_M := hM1.1
      have h_a0 := hM1.a0
      refine hji ?_
      refine j_lload hX dX6_longer_43 rfl ?_
      refine j_lload hX dX6_longer_45 rfl ?_
      refine j_lsub hX dX6_longer_47 ?_
      refine j_lconst1 hX dX6_longer_48 ?_
      refine j_lcmp_le hX 97 dX6_longer_49 dX6_longer_50 (by decide) (by omega) (by omega) (fun c49 => ?_) (fun c49 => ?_)
      · refine j_aload_n hX dX6_longer_97 rfl ?_
        refine j_get hX fl_X6_7_8 dX6_longer_98 h_M (by rfl) ?_
        refine j_iload_n hX dX6_longer_101 rfl ?_
        refine j_lload_n hX dX6_longer_102 rfl ?_
        refine j_lastN hX _ rfl dX6_longer_103 h_a0 (by omega) (by decide) ?_
        have hM2 : Mo G (hup h1 (A9 0) (gJ G 17 (zup (ow σ t x 0) t (σ 0 t)))) b A9 σ n m sp1 tu1 0 := by have z9 := hM1.arr (k := 0) rfl (zup (ow σ t x 0) t (σ 0 t)); rw [ow_ow, ow_self] at z9; exact z9
        have hF2 := hFm.a (k := 0) rfl (gJ G 17 (zup (ow σ t x 0) t (σ 0 t)))
        refine j_lload hX dX6_longer_104 rfl ?_
        refine j_lload_n hX dX6_longer_106 rfl ?_
        refine j_lsub hX dX6_longer_107 ?_
        exact j_lret hX hR dX6_longer_108 ⟨by rw [lngF, if_pos (by omega), if_pos hal, hzt]; show _ = Value.long (lZ (lng σ n m t 1001 (σ 0 t) 1001 - σ 0 t)); rw [← hs]; rw [lng, if_neg (by omega)], sp1, tu1, hM2, hF2⟩
      · refine j_aload_n hX dX6_longer_53 rfl ?_
        refine j_get hX fl_X6_7_8 dX6_longer_54 h_M (by rfl) ?_
        refine j_iload_n hX dX6_longer_57 rfl ?_
        refine j_lload hX dX6_longer_58 rfl ?_
        refine j_lload hX dX6_longer_60 rfl ?_
        refine j_ladd hX dX6_longer_62 ?_
        refine j_ldc2 hX k_X6_140 (z := 2) (by decide) dX6_longer_63 ?_
        refine j_ldiv hX dX6_longer_66 (by omega) (by omega) ?_
        refine j_lastN hX _ rfl dX6_longer_67 h_a0 (by omega) (by decide) ?_
        have hM2 : Mo G (hup h1 (A9 0) (gJ G 17 (zup (ow σ t x 0) t ((low + high) / 2)))) b A9 (ow σ t ((low + high) / 2)) n m sp1 tu1 0 := by have z9 := hM1.arr (k := 0) rfl (zup (ow σ t x 0) t ((low + high) / 2)); rw [ow_ow] at z9; exact z9
        have hF2 := hFm.a (k := 0) rfl (gJ G 17 (zup (ow σ t x 0) t ((low + high) / 2)))
        have h_M := hM2.1
        have hxm : 1 ≤ ((low + high) / 2) ∧ ((low + high) / 2) ≤ 1000 := by omega
        refine j_aload_n hX dX6_longer_68 rfl ?_
        refine j_callV hX cv_X6_134 (c6_allAnswer hM2 (hO.own hxm)) dX6_longer_69 h_M rfl rfl (by exact ⟨Nat.le_of_ble_eq_true rfl, Nat.le_of_ble_eq_true rfl⟩) (by exact ⟨Nat.le_of_ble_eq_true rfl, Nat.le_of_ble_eq_true rfl⟩) (by exact Nat.le_of_ble_eq_true rfl) (fun v69 h69 hp69 => ?_) rfl
        obtain ⟨⟨y69, rfl, hy69⟩, sp3, tu3, hM3, hF3⟩ := hp69
        have h_M := hM3.1
        have h_a0 := hM3.a0
        have hy : y69 = 0 ∨ y69 = 1 := by rcases hy69 with ⟨z9, _⟩ | ⟨z9, _⟩ <;> omega
        refine j_if_eq hX 86 dX6_longer_72 (by decide) (by omega) (fun c72 => ?_) (fun c72 => ?_)
        · refine j_aload_n hX dX6_longer_86 rfl ?_
          refine j_get hX fl_X6_7_8 dX6_longer_87 h_M (by rfl) ?_
          refine j_iload_n hX dX6_longer_90 rfl ?_
          refine j_laldN hX _ rfl dX6_longer_91 h_a0 (by omega) (by decide) ?_
          refine j_lstore hX dX6_longer_92 (by decide) ?_
          refine j_goto hX 43 dX6_longer_94 (by decide) ?_
          exact j_at (L' := [(0, .ref b), (1, .int (iZ (t : Int))), (2, .long (lZ (σ 0 t))), (4, .long (lZ low)), (6, .long (lZ ((low + high) / 2)))]) (hjo (ih low ((low + high) / 2) _ _ _ _ (by omega) (by omega) (by omega) (by omega) hxm hM3 (hF2.tr hF3) (by rw [← hs]; conv => { rhs; unfold lng }; rw [if_pos (by omega), if_neg (by rcases hy69 with ⟨z9, _⟩ | ⟨_, z9⟩; omega; exact z9)]))) ⟨rfl, rfl, rfl, by (show some (Value.long (lZ _)) = _); first | rfl | rw [ow_at], by first | rfl | (show some (Value.long (lZ _)) = _; rw [ow_at]), trivial⟩
        · refine j_aload_n hX dX6_longer_75 rfl ?_
          refine j_get hX fl_X6_7_8 dX6_longer_76 h_M (by rfl) ?_
          refine j_iload_n hX dX6_longer_79 rfl ?_
          refine j_laldN hX _ rfl dX6_longer_80 h_a0 (by omega) (by decide) ?_
          refine j_lstore hX dX6_longer_81 (by decide) ?_
          refine j_goto hX 43 dX6_longer_83 (by decide) ?_
          exact j_at (L' := [(0, .ref b), (1, .int (iZ (t : Int))), (2, .long (lZ (σ 0 t))), (4, .long (lZ ((low + high) / 2))), (6, .long (lZ high))]) (hjo (ih ((low + high) / 2) high _ _ _ _ (by omega) (by omega) (by omega) (by omega) hxm hM3 (hF2.tr hF3) (by rw [← hs]; conv => { rhs; unfold lng }; rw [if_pos (by omega), if_pos (by rcases hy69 with ⟨_, z9⟩ | ⟨z9, _⟩; exact z9; omega)]))) ⟨rfl, rfl, rfl, by (show some (Value.long (lZ _)) = _); first | rfl | rw [ow_at], by first | rfl | (show some (Value.long (lZ _)) = _; rw [ow_at]), trivial⟩
  refine hji ?_
  refine j_aload_n hX dX6_longer_0 rfl ?_
  refine j_iconst hX dX6_longer_1 ?_
  refine j_putE hX fp_X6_63_8 dX6_longer_2 h_M rfl rfl (Nat.le_of_ble_eq_true rfl) (fs2 := (MF A9 n m sp tu 0)) rfl ?_
  have hM0 := hM.fld (n' := n) (m' := m) (sp' := sp) (tu' := tu) (th' := 0)
  have h_M := hM0.1
  have hF0 : Fm h _ b A9 := (Fm.rf h b A9).b (.inr (8, MF A9 n m sp tu 0))
  refine j_aload_n hX dX6_longer_5 rfl ?_
  refine j_iload_n hX dX6_longer_6 rfl ?_
  refine j_callV hX cv_X6_82 (c6_isTaskF hM0 (by omega) (by omega)) dX6_longer_7 h_M rfl rfl (by exact ⟨Nat.le_of_ble_eq_true rfl, Nat.le_of_ble_eq_true rfl⟩) (by exact ⟨Nat.le_of_ble_eq_true rfl, Nat.le_of_ble_eq_true rfl⟩) (by exact Nat.le_of_ble_eq_true rfl) (fun v7 h7 hp7 => ?_) rfl
  obtain ⟨⟨y7, rfl, hy7⟩, rfl⟩ := hp7
  refine j_if_ne hX 17 dX6_longer_10 (by decide) (by omega) (fun c10 => ?_) (fun c10 => ?_)
  · have ht9 : 1 ≤ z ∧ z ≤ n := by omega
    obtain ⟨t, rfl⟩ : ∃ t : Nat, z = (t : Int) := ⟨z.toNat, by omega⟩
    obtain ⟨o0, -⟩ := hO.2.2.1 t (by omega) (by omega)
    refine j_aload_n hX dX6_longer_17 rfl ?_
    refine j_callV hX cv_X6_134 (c6_allAnswer hM0 hO) dX6_longer_18 h_M rfl rfl (by exact ⟨Nat.le_of_ble_eq_true rfl, Nat.le_of_ble_eq_true rfl⟩) (by exact ⟨Nat.le_of_ble_eq_true rfl, Nat.le_of_ble_eq_true rfl⟩) (by exact Nat.le_of_ble_eq_true rfl) (fun v18 h18 hp18 => ?_) rfl
    obtain ⟨⟨y18, rfl, hy18⟩, sp1, tu1, hM1, hF1⟩ := hp18
    have hy : y18 = 0 ∨ y18 = 1 := by rcases hy18 with ⟨z9, _⟩ | ⟨z9, _⟩ <;> omega
    have h_M := hM1.1
    have h_a0 := hM1.a0
    refine j_if_ne hX 28 dX6_longer_21 (by decide) (by omega) (fun c21 => ?_) (fun c21 => ?_)
    · refine j_aload_n hX dX6_longer_28 rfl ?_
      refine j_get hX fl_X6_7_8 dX6_longer_29 h_M (by rfl) ?_
      refine j_iload_n hX dX6_longer_32 rfl ?_
      refine j_laldN hX _ rfl dX6_longer_33 h_a0 (by omega) (by decide) ?_
      refine j_lstore_n hX dX6_longer_34 (by decide) ?_
      refine j_lload_n hX dX6_longer_35 rfl ?_
      refine j_lstore hX dX6_longer_36 (by decide) ?_
      refine j_ldc2 hX k_X6_138 (z := 1001) (by decide) dX6_longer_38 ?_
      refine j_lstore hX dX6_longer_41 (by decide) ?_
      exact j_at (L' := [(0, .ref b), (1, .int (iZ (t : Int))), (2, .long (lZ (σ 0 t))), (4, .long (lZ _)), (6, .long (lZ _))]) (hjo (lp t ⟨by omega, by omega⟩ rfl (by rcases hy18 with ⟨_, z9⟩ | ⟨z9, _⟩; exact z9; omega) 1001 (σ 0 t) 1001 (σ 0 t) _ _ _ (by omega) (by omega) (by omega) (by omega) o0 (by rw [ow_self]; exact hM1) (hF0.tr hF1) rfl)) ⟨rfl, rfl, rfl, rfl, rfl, trivial⟩
    · refine j_ldc2 hX k_X6_80 (z := -1) (by decide) dX6_longer_24 ?_
      exact j_lret hX hR dX6_longer_27 ⟨by rw [lngF, if_pos (by omega), if_neg (by rcases hy18 with ⟨z9, _⟩ | ⟨_, z9⟩; omega; exact z9)], sp1, tu1, hM1, hF0.tr hF1⟩
  · refine j_ldc2 hX k_X6_132 (z := -2) (by decide) dX6_longer_13 ?_
    exact j_lret hX hR dX6_longer_16 ⟨by rw [lngF, if_neg (by omega)], sp, tu, hM0, hF0⟩
