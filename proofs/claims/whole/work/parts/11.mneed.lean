/-! THE REFERENCE: reaches, blocking, need, load -/
def rchU (σ : St) (n : Nat) (r k : Int) (t j : Nat) : Prop := ∃ o i : Nat, 1 ≤ o ∧ o ≤ n ∧ (o < t ∨ (o = t ∧ i < j)) ∧ (i : Int) < σ 8 o ∧ k ≤ σ 2 o ∧ σ 9 (10 * o - 10 + i) = r
theorem rchU_step {σ : St} {n : Nat} {r k : Int} {t j : Nat} (ht : 1 ≤ t ∧ t ≤ n) (hj : (j : Int) < σ 8 t) : rchU σ n r k t (j + 1) ↔ rchU σ n r k t j ∨ (k ≤ σ 2 t ∧ σ 9 (10 * t - 10 + j) = r) := by
  constructor
  · rintro ⟨o, i, h1, h2, h3, h4, h5, h6⟩
    by_cases e : o = t ∧ i = j
    · obtain ⟨rfl, rfl⟩ := e
      exact Or.inr ⟨h5, h6⟩
    · exact Or.inl ⟨o, i, h1, h2, by omega, h4, h5, h6⟩
  · rintro (⟨o, i, h1, h2, h3, h4, h5, h6⟩ | ⟨h5, h6⟩)
    · exact ⟨o, i, h1, h2, by omega, h4, h5, h6⟩
    · exact ⟨t, j, ht.1, ht.2, by omega, hj, h5, h6⟩
theorem rchU_next {σ : St} {n : Nat} {r k : Int} {t j : Nat} (hj : (j : Int) = σ 8 t) : rchU σ n r k t j ↔ rchU σ n r k (t + 1) 0 := by
  constructor
  · rintro ⟨o, i, h1, h2, h3, h4, h5, h6⟩
    exact ⟨o, i, h1, h2, by omega, h4, h5, h6⟩
  · rintro ⟨o, i, h1, h2, h3, h4, h5, h6⟩
    refine ⟨o, i, h1, h2, ?_, h4, h5, h6⟩
    rcases h3 with h3 | h3
    · by_cases e : o = t
      · subst e; exact Or.inr ⟨rfl, by omega⟩
      · exact Or.inl (by omega)
    · omega
theorem rchU_zero {σ : St} {n : Nat} {r k : Int} : ¬ rchU σ n r k 1 0 := by
  rintro ⟨o, i, h1, h2, h3, h4, h5, h6⟩; omega
theorem rchU_all {σ : St} {n : Nat} {r k : Int} : rchU σ n r k (n + 1) 0 ↔ reach σ n r k := by
  constructor
  · rintro ⟨o, i, h1, h2, h3, h4, h5, h6⟩; exact ⟨o, i, h1, h2, h4, h5, h6⟩
  · rintro ⟨o, i, h1, h2, h4, h5, h6⟩; exact ⟨o, i, h1, h2, Or.inl (by omega), h4, h5, h6⟩
/-- a flag of a proposition -/
def flg (x : Int) (P : Prop) : Prop := (x = 1 ∧ P) ∨ (x = 0 ∧ ¬ P)
theorem flg.iff {x : Int} {P Q : Prop} (h : flg x P) (e : P ↔ Q) : flg x Q := by
  rcases h with ⟨a, b⟩ | ⟨a, b⟩
  · exact Or.inl ⟨a, e.mp b⟩
  · exact Or.inr ⟨a, fun z => b (e.mpr z)⟩
set_option maxRecDepth 100000 in
set_option maxHeartbeats 4000000 in
theorem c6_reaches {l : Launch} {G : Gt} {B : Nat} {h : hF} {b : Nat} {A9 : Nat → Nat} {σ : St} {n m : Nat} {sp tu th : Int} (hM : Mo G h b A9 σ n m sp tu th) (hO : OK n m σ) {r k : Int} (hr : 0 ≤ r ∧ r ≤ 1000) (hk : 0 ≤ k ∧ k ≤ 1000) : Ct l G B yX6_reaches cX6_reaches 6 (some .boolean) 0 0 0 [.ref b, .int (iZ r), .int (iZ k)] h (fun v h' => (∃ x : Int, v = .int (iZ x) ∧ flg x (reach σ n r k)) ∧ h = h') := by
  refine Ct.of (by decide) (Nat.le_of_ble_eq_true rfl) ?_
  intro p e s m9 below meth c A hX hR hin
  have h_M := hM.1
  have h_a2 := hM.a2
  have h_a8 := hM.a8
  have h_a9 := hM.a9
  have hn16 := hO.1
  have hm8 := hO.2.1
  refine J_abs (J0 := J p l e _ s m9 _ below meth c _ _ G A) ?_
  intro JX hji hjo
  have lp : ∀ (d t : Nat) (x : Int), d + t = n + 1 → 1 ≤ t → flg x (rchU σ n r k t 0) → JX 0 0 5 [(0, .ref b), (1, .int (iZ r)), (2, .int (iZ k)), (3, .int (iZ x)), (4, .int (iZ ((t : Nat) : Int)))] [] h := by
    intro d
    induction d with
    | zero =>
      intro t x hd ht hx
      refine hji ?_
      refine j_iload hX dX6_reaches_5 rfl ?_
      refine j_aload_n hX dX6_reaches_7 rfl ?_
      refine j_get hX fl_X6_67_8 dX6_reaches_8 h_M (by rfl) ?_
      refine j_icmp_gt hX 82 dX6_reaches_11 (by decide) (by omega) (by omega) (fun c11 => ?_) (fun c11 => absurd c11 (by omega))
      refine j_iload_n hX dX6_reaches_82 rfl ?_
      exact j_zret hX hR dX6_reaches_83 (by rcases hx with ⟨z, _⟩ | ⟨z, _⟩ <;> omega) ⟨⟨x, rfl, hx.iff (by rw [show t = n + 1 by omega]; exact rchU_all)⟩, rfl⟩
    | succ d ih =>
      intro t x hd ht hx
      obtain ⟨o0, o1, o2, o3, o4, o5, o6, o7, o8, o9⟩ := hO.2.2.1 t (by omega) (by omega)
      have lq : ∀ (f j : Nat) (x : Int), (f : Int) + (j : Int) = σ 8 t → flg x (rchU σ n r k t j) → JX 0 0 17 [(0, .ref b), (1, .int (iZ r)), (2, .int (iZ k)), (3, .int (iZ x)), (4, .int (iZ ((t : Nat) : Int))), (5, .int (iZ ((j : Nat) : Int)))] [] h := by
        intro f
        induction f with
        | zero =>
          intro j x hf hx
          refine hji ?_
          refine j_iload hX dX6_reaches_17 rfl ?_
          refine j_aload_n hX dX6_reaches_19 rfl ?_
          refine j_get hX fl_X6_35_8 dX6_reaches_20 h_M (by rfl) ?_
          refine j_iload hX dX6_reaches_23 rfl ?_
          refine j_ialdN hX _ rfl dX6_reaches_25 h_a8 (by omega) (by decide) ?_
          refine j_icmp_ge hX 76 dX6_reaches_26 (by decide) (by omega) (by omega) (fun c26 => ?_) (fun c26 => absurd c26 (by omega))
          refine j_iinc hX dX6_reaches_76 rfl (by decide) ?_
          refine j_goto hX 5 dX6_reaches_79 (by decide) ?_
          exact j_at (L' := [(0, .ref b), (1, .int (iZ r)), (2, .int (iZ k)), (3, .int (iZ x)), (4, .int (iZ (((t + 1) : Nat) : Int)))]) (hjo (ih (t + 1) x (by omega) (by omega) (hx.iff (rchU_next (by omega))))) ⟨rfl, rfl, rfl, rfl, rfl, trivial⟩
        | succ f ih2 =>
          intro j x hf hx
          have hjl : (j : Int) < σ 8 t := by omega
          have o9 := o9 j hjl
          refine hji ?_
          have hx1 : x = 0 ∨ x = 1 := by rcases hx with ⟨z, _⟩ | ⟨z, _⟩ <;> omega
          refine j_iload hX dX6_reaches_17 rfl ?_
          refine j_aload_n hX dX6_reaches_19 rfl ?_
          refine j_get hX fl_X6_35_8 dX6_reaches_20 h_M (by rfl) ?_
          refine j_iload hX dX6_reaches_23 rfl ?_
          refine j_ialdN hX _ rfl dX6_reaches_25 h_a8 (by omega) (by decide) ?_
          refine j_icmp_ge hX 76 dX6_reaches_26 (by decide) (by omega) (by omega) (fun c26 => absurd c26 (by omega)) (fun c26 => ?_)
          refine j_iload_n hX dX6_reaches_29 rfl ?_
          refine j_if_ne hX 64 dX6_reaches_30 (by decide) (by omega) (fun c30 => ?_) (fun c30 => ?_)
          · refine j_iconst hX dX6_reaches_64 ?_
            refine j_goto hX 69 dX6_reaches_65 (by decide) ?_
            refine j_istore_n hX dX6_reaches_69 (by decide) ?_
            refine j_iinc hX dX6_reaches_70 rfl (by decide) ?_
            refine j_goto hX 17 dX6_reaches_73 (by decide) ?_
            exact j_at (L' := [(0, .ref b), (1, .int (iZ r)), (2, .int (iZ k)), (3, .int (iZ _)), (4, .int (iZ ((t : Nat) : Int))), (5, .int (iZ (((j + 1) : Nat) : Int)))]) (hjo (ih2 (j + 1) _ (by omega) (by first | exact (Or.inl ⟨rfl, (rchU_step (by omega) (by omega)).mpr (Or.inl (by rcases hx with ⟨_, z⟩ | ⟨z, _⟩; exact z; exact absurd z c30))⟩) | exact (Or.inl ⟨rfl, (rchU_step (by omega) (by omega)).mpr (Or.inr ⟨by omega, by omega⟩)⟩) | exact Or.inr ⟨rfl, fun z => by rcases (rchU_step (by omega) (by omega)).mp z with z | ⟨z1, z2⟩; (rcases hx with ⟨z9, _⟩ | ⟨_, z9⟩; omega; exact z9 z); omega⟩))) ⟨rfl, rfl, rfl, rfl, rfl, rfl, trivial⟩
          · refine j_aload_n hX dX6_reaches_33 rfl ?_
            refine j_get hX fl_X6_16_8 dX6_reaches_34 h_M (by rfl) ?_
            refine j_iload hX dX6_reaches_37 rfl ?_
            refine j_ialdN hX _ rfl dX6_reaches_39 h_a2 (by omega) (by decide) ?_
            refine j_iload_n hX dX6_reaches_40 rfl ?_
            refine j_icmp_lt hX 68 dX6_reaches_41 (by decide) (by omega) (by omega) (fun c41 => ?_) (fun c41 => ?_)
            · refine j_iconst hX dX6_reaches_68 ?_
              refine j_istore_n hX dX6_reaches_69 (by decide) ?_
              refine j_iinc hX dX6_reaches_70 rfl (by decide) ?_
              refine j_goto hX 17 dX6_reaches_73 (by decide) ?_
              exact j_at (L' := [(0, .ref b), (1, .int (iZ r)), (2, .int (iZ k)), (3, .int (iZ _)), (4, .int (iZ ((t : Nat) : Int))), (5, .int (iZ (((j + 1) : Nat) : Int)))]) (hjo (ih2 (j + 1) _ (by omega) (by first | exact (Or.inl ⟨rfl, (rchU_step (by omega) (by omega)).mpr (Or.inl (by rcases hx with ⟨_, z⟩ | ⟨z, _⟩; exact z; exact absurd z c30))⟩) | exact (Or.inl ⟨rfl, (rchU_step (by omega) (by omega)).mpr (Or.inr ⟨by omega, by omega⟩)⟩) | exact Or.inr ⟨rfl, fun z => by rcases (rchU_step (by omega) (by omega)).mp z with z | ⟨z1, z2⟩; (rcases hx with ⟨z9, _⟩ | ⟨_, z9⟩; omega; exact z9 z); omega⟩))) ⟨rfl, rfl, rfl, rfl, rfl, rfl, trivial⟩
            · refine j_aload_n hX dX6_reaches_44 rfl ?_
              refine j_get hX fl_X6_38_8 dX6_reaches_45 h_M (by rfl) ?_
              refine j_bipush hX dX6_reaches_48 (by decide) ?_
              refine j_iload hX dX6_reaches_50 rfl ?_
              refine j_imul hX dX6_reaches_52 ?_
              refine j_bipush hX dX6_reaches_53 (by decide) ?_
              refine j_isub hX dX6_reaches_55 ?_
              refine j_iload hX dX6_reaches_56 rfl ?_
              refine j_iadd hX dX6_reaches_58 ?_
              refine j_ialdN hX (10 * t - 10 + j) (by omega) dX6_reaches_59 h_a9 (by omega) (by decide) ?_
              refine j_iload_n hX dX6_reaches_60 rfl ?_
              refine j_icmp_ne hX 68 dX6_reaches_61 (by decide) (by omega) (by omega) (fun c61 => ?_) (fun c61 => ?_)
              · refine j_iconst hX dX6_reaches_68 ?_
                refine j_istore_n hX dX6_reaches_69 (by decide) ?_
                refine j_iinc hX dX6_reaches_70 rfl (by decide) ?_
                refine j_goto hX 17 dX6_reaches_73 (by decide) ?_
                exact j_at (L' := [(0, .ref b), (1, .int (iZ r)), (2, .int (iZ k)), (3, .int (iZ _)), (4, .int (iZ ((t : Nat) : Int))), (5, .int (iZ (((j + 1) : Nat) : Int)))]) (hjo (ih2 (j + 1) _ (by omega) (by first | exact (Or.inl ⟨rfl, (rchU_step (by omega) (by omega)).mpr (Or.inl (by rcases hx with ⟨_, z⟩ | ⟨z, _⟩; exact z; exact absurd z c30))⟩) | exact (Or.inl ⟨rfl, (rchU_step (by omega) (by omega)).mpr (Or.inr ⟨by omega, by omega⟩)⟩) | exact Or.inr ⟨rfl, fun z => by rcases (rchU_step (by omega) (by omega)).mp z with z | ⟨z1, z2⟩; (rcases hx with ⟨z9, _⟩ | ⟨_, z9⟩; omega; exact z9 z); omega⟩))) ⟨rfl, rfl, rfl, rfl, rfl, rfl, trivial⟩
              · refine j_iconst hX dX6_reaches_64 ?_
                refine j_goto hX 69 dX6_reaches_65 (by decide) ?_
                refine j_istore_n hX dX6_reaches_69 (by decide) ?_
                refine j_iinc hX dX6_reaches_70 rfl (by decide) ?_
                refine j_goto hX 17 dX6_reaches_73 (by decide) ?_
                exact j_at (L' := [(0, .ref b), (1, .int (iZ r)), (2, .int (iZ k)), (3, .int (iZ _)), (4, .int (iZ ((t : Nat) : Int))), (5, .int (iZ (((j + 1) : Nat) : Int)))]) (hjo (ih2 (j + 1) _ (by omega) (by first | exact (Or.inl ⟨rfl, (rchU_step (by omega) (by omega)).mpr (Or.inl (by rcases hx with ⟨_, z⟩ | ⟨z, _⟩; exact z; exact absurd z c30))⟩) | exact (Or.inl ⟨rfl, (rchU_step (by omega) (by omega)).mpr (Or.inr ⟨by omega, by omega⟩)⟩) | exact Or.inr ⟨rfl, fun z => by rcases (rchU_step (by omega) (by omega)).mp z with z | ⟨z1, z2⟩; (rcases hx with ⟨z9, _⟩ | ⟨_, z9⟩; omega; exact z9 z); omega⟩))) ⟨rfl, rfl, rfl, rfl, rfl, rfl, trivial⟩
      refine hji ?_
      refine j_iload hX dX6_reaches_5 rfl ?_
      refine j_aload_n hX dX6_reaches_7 rfl ?_
      refine j_get hX fl_X6_67_8 dX6_reaches_8 h_M (by rfl) ?_
      refine j_icmp_gt hX 82 dX6_reaches_11 (by decide) (by omega) (by omega) (fun c11 => absurd c11 (by omega)) (fun c11 => ?_)
      refine j_iconst hX dX6_reaches_14 ?_
      refine j_istore hX dX6_reaches_15 (by decide) ?_
      exact j_at (L' := [(0, .ref b), (1, .int (iZ r)), (2, .int (iZ k)), (3, .int (iZ x)), (4, .int (iZ ((t : Nat) : Int))), (5, .int (iZ ((0 : Nat) : Int)))]) (hjo (lq (σ 8 t).toNat 0 x (by omega) hx)) ⟨rfl, rfl, rfl, rfl, rfl, rfl, trivial⟩
  refine hji ?_
  refine j_iconst hX dX6_reaches_0 ?_
  refine j_istore_n hX dX6_reaches_1 (by decide) ?_
  refine j_iconst hX dX6_reaches_2 ?_
  refine j_istore hX dX6_reaches_3 (by decide) ?_
  exact j_at (L' := [(0, .ref b), (1, .int (iZ r)), (2, .int (iZ k)), (3, .int (iZ 0)), (4, .int (iZ ((1 : Nat) : Int)))]) (hjo (lp n 1 0 (by omega) (by omega) (Or.inr ⟨rfl, rchU_zero⟩))) ⟨rfl, rfl, rfl, rfl, rfl, trivial⟩
def blkU (σ : St) (n t : Nat) (o0 j0 : Nat) (y : Int) : Prop := ∃ o j : Nat, 1 ≤ o ∧ o ≤ n ∧ (o < o0 ∨ (o = o0 ∧ j < j0)) ∧ (j : Int) < σ 8 o ∧ σ 2 o < σ 2 t ∧ reach σ n (σ 9 (10 * o - 10 + j)) (σ 2 t) ∧ y = σ 10 (10 * o - 10 + j)
theorem blkU_step {σ : St} {n t o0 j0 : Nat} {y : Int} (h : blkU σ n t o0 (j0 + 1) y) : blkU σ n t o0 j0 y ∨ (σ 2 o0 < σ 2 t ∧ reach σ n (σ 9 (10 * o0 - 10 + j0)) (σ 2 t) ∧ y = σ 10 (10 * o0 - 10 + j0)) := by
  obtain ⟨o, j, h1, h2, h3, h4, h5, h6, h7⟩ := h
  by_cases e : o = o0 ∧ j = j0
  · obtain ⟨rfl, rfl⟩ := e
    exact Or.inr ⟨h5, h6, h7⟩
  · exact Or.inl ⟨o, j, h1, h2, by omega, h4, h5, h6, h7⟩
theorem blkU_up {σ : St} {n t o0 j0 : Nat} {y : Int} (h : blkU σ n t o0 j0 y) : blkU σ n t o0 (j0 + 1) y := by
  obtain ⟨o, j, h1, h2, h3, h4, h5, h6, h7⟩ := h
  exact ⟨o, j, h1, h2, by omega, h4, h5, h6, h7⟩
theorem blkU_next {σ : St} {n t o0 j0 : Nat} {y : Int} (hj : (j0 : Int) = σ 8 o0) : blkU σ n t o0 j0 y ↔ blkU σ n t (o0 + 1) 0 y := by
  constructor
  · rintro ⟨o, i, h1, h2, h3, h4, h5⟩
    exact ⟨o, i, h1, h2, by omega, h4, h5⟩
  · rintro ⟨o, i, h1, h2, h3, h4, h5⟩
    refine ⟨o, i, h1, h2, ?_, h4, h5⟩
    rcases h3 with h3 | h3
    · by_cases e : o = o0
      · subst e; exact Or.inr ⟨rfl, by omega⟩
      · exact Or.inl (by omega)
    · omega
theorem blkU_all {σ : St} {n t : Nat} {y : Int} : blkU σ n t (n + 1) 0 y ↔ blkS σ n t y := by
  constructor
  · rintro ⟨o, i, h1, h2, h3, h4⟩; exact ⟨o, i, h1, h2, h4⟩
  · rintro ⟨o, i, h1, h2, h4⟩; exact ⟨o, i, h1, h2, Or.inl (by omega), h4⟩
theorem blkS_b {σ : St} {n m t : Nat} (hO : OK n m σ) {x : Int} (h : isMax (blkS σ n t) x) : 0 ≤ x ∧ x ≤ 1000 := by
  refine ⟨h.2.1, ?_⟩
  rcases h.1 with h | ⟨o, j, h1, h2, h3, h4, h5, h6⟩
  · omega
  · have := ((hO.2.2.1 o h1 h2).2.2.2.2.2.2.2.2.2 j h3).2
    omega
set_option maxRecDepth 100000 in
set_option maxHeartbeats 4000000 in
theorem c6_blocking {l : Launch} {G : Gt} {B : Nat} {h : hF} {b : Nat} {A9 : Nat → Nat} {σ : St} {n m : Nat} {sp tu th : Int} (hM : Mo G h b A9 σ n m sp tu th) {t : Nat} (ht : 1 ≤ t ∧ t ≤ n) (hO : OK n m σ) : Ct l G B yX6_blocking cX6_blocking 7 (some .long) 1 0 0 [.ref b, .int (iZ (t : Int))] h (fun v h' => v = .long (lZ (blk σ n t)) ∧ h = h') := by
  refine Ct.of (by decide) (Nat.le_of_ble_eq_true rfl) ?_
  intro p e s m9 below meth c A hX hR hin
  have h_M := hM.1
  have h_a2 := hM.a2
  have h_a8 := hM.a8
  have h_a9 := hM.a9
  have h_a10 := hM.a10
  have hn16 := hO.1
  have hm8 := hO.2.1
  obtain ⟨-, -, r0, -⟩ := hO.2.2.1 t ht.1 ht.2
  refine J_abs (J0 := J p l e _ s m9 _ below meth c _ _ G A) ?_
  intro JX hji hjo
  have lp : ∀ (d o : Nat) (x : Int), d + o = n + 1 → 1 ≤ o → isMax (blkU σ n t o 0) x → x ≤ 1000 → JX 0 0 5 [(0, .ref b), (1, .int (iZ (t : Int))), (2, .long (lZ x)), (4, .int (iZ ((o : Nat) : Int)))] [] h := by
    intro d
    induction d with
    | zero =>
      intro o x hd ho hx hx9
      refine hji ?_
      refine j_iload hX dX6_blocking_5 rfl ?_
      refine j_aload_n hX dX6_blocking_7 rfl ?_
      refine j_get hX fl_X6_67_8 dX6_blocking_8 h_M (by rfl) ?_
      refine j_icmp_gt hX 110 dX6_blocking_11 (by decide) (by omega) (by omega) (fun c11 => ?_) (fun c11 => absurd c11 (by omega))
      refine j_lload_n hX dX6_blocking_110 rfl ?_
      exact j_lret hX hR dX6_blocking_111 ⟨by rw [blk_eq (hx.congr (fun y => by rw [show o = n + 1 by omega]; exact blkU_all))], rfl⟩
    | succ d ih =>
      intro o x hd ho hx hx9
      obtain ⟨o0, o1, o2, o3, o4, o5, o6, o7, o8, o9⟩ := hO.2.2.1 o (by omega) (by omega)
      have lq : ∀ (f j : Nat) (x : Int), (f : Int) + (j : Int) = σ 8 o → isMax (blkU σ n t o j) x → x ≤ 1000 → JX 0 0 17 [(0, .ref b), (1, .int (iZ (t : Int))), (2, .long (lZ x)), (4, .int (iZ ((o : Nat) : Int))), (5, .int (iZ ((j : Nat) : Int)))] [] h := by
        intro f
        induction f with
        | zero =>
          intro j x hf hx hx9
          refine hji ?_
          refine j_iload hX dX6_blocking_17 rfl ?_
          refine j_aload_n hX dX6_blocking_19 rfl ?_
          refine j_get hX fl_X6_35_8 dX6_blocking_20 h_M (by rfl) ?_
          refine j_iload hX dX6_blocking_23 rfl ?_
          refine j_ialdN hX _ rfl dX6_blocking_25 h_a8 (by omega) (by decide) ?_
          refine j_icmp_ge hX 104 dX6_blocking_26 (by decide) (by omega) (by omega) (fun c26 => ?_) (fun c26 => absurd c26 (by omega))
          refine j_iinc hX dX6_blocking_104 rfl (by decide) ?_
          refine j_goto hX 5 dX6_blocking_107 (by decide) ?_
          exact j_at (L' := [(0, .ref b), (1, .int (iZ (t : Int))), (2, .long (lZ x)), (4, .int (iZ (((o + 1) : Nat) : Int)))]) (hjo (ih (o + 1) x (by omega) (by omega) (hx.congr (fun y => blkU_next (by omega))) hx9)) ⟨rfl, rfl, rfl, rfl, trivial⟩
        | succ f ih2 =>
          intro j x hf hx hx9
          have hjl : (j : Int) < σ 8 o := by omega
          have o9 := o9 j hjl
          have hx0 := hx.2.1
          refine hji ?_
          refine j_iload hX dX6_blocking_17 rfl ?_
          refine j_aload_n hX dX6_blocking_19 rfl ?_
          refine j_get hX fl_X6_35_8 dX6_blocking_20 h_M (by rfl) ?_
          refine j_iload hX dX6_blocking_23 rfl ?_
          refine j_ialdN hX _ rfl dX6_blocking_25 h_a8 (by omega) (by decide) ?_
          refine j_icmp_ge hX 104 dX6_blocking_26 (by decide) (by omega) (by omega) (fun c26 => absurd c26 (by omega)) (fun c26 => ?_)
          refine j_bipush hX dX6_blocking_29 (by decide) ?_
          refine j_iload hX dX6_blocking_31 rfl ?_
          refine j_imul hX dX6_blocking_33 ?_
          refine j_bipush hX dX6_blocking_34 (by decide) ?_
          refine j_isub hX dX6_blocking_36 ?_
          refine j_iload hX dX6_blocking_37 rfl ?_
          refine j_iadd hX dX6_blocking_39 ?_
          refine j_istore hX dX6_blocking_40 (by decide) ?_
          refine j_aload_n hX dX6_blocking_42 rfl ?_
          refine j_get hX fl_X6_16_8 dX6_blocking_43 h_M (by rfl) ?_
          refine j_iload hX dX6_blocking_46 rfl ?_
          refine j_ialdN hX _ rfl dX6_blocking_48 h_a2 (by omega) (by decide) ?_
          refine j_aload_n hX dX6_blocking_49 rfl ?_
          refine j_get hX fl_X6_16_8 dX6_blocking_50 h_M (by rfl) ?_
          refine j_iload_n hX dX6_blocking_53 rfl ?_
          refine j_ialdN hX _ rfl dX6_blocking_54 h_a2 (by omega) (by decide) ?_
          refine j_icmp_ge hX 98 dX6_blocking_55 (by decide) (by omega) (by omega) (fun c55 => ?_) (fun c55 => ?_)
          · refine j_iinc hX dX6_blocking_98 rfl (by decide) ?_
            refine j_goto hX 17 dX6_blocking_101 (by decide) ?_
            exact j_at (L' := [(0, .ref b), (1, .int (iZ (t : Int))), (2, .long (lZ x)), (4, .int (iZ ((o : Nat) : Int))), (5, .int (iZ (((j + 1) : Nat) : Int)))]) (hjo (ih2 (j + 1) x (by omega) (hx.keep (fun y hy => blkU_up hy) (fun y hy => by rcases blkU_step hy with z | ⟨z1, z2, z3⟩; exact Or.inl z; exfalso; omega)) hx9)) ⟨rfl, rfl, rfl, rfl, rfl, trivial⟩
          · refine j_aload_n hX dX6_blocking_58 rfl ?_
            refine j_get hX fl_X6_41_8 dX6_blocking_59 h_M (by rfl) ?_
            refine j_iload hX dX6_blocking_62 rfl ?_
            refine j_laldN hX (10 * o - 10 + j) (by omega) dX6_blocking_64 h_a10 (by omega) (by decide) ?_
            refine j_lload_n hX dX6_blocking_65 rfl ?_
            refine j_lcmp_le hX 98 dX6_blocking_66 dX6_blocking_67 (by decide) (by omega) (by omega) (fun c66 => ?_) (fun c66 => ?_)
            · refine j_iinc hX dX6_blocking_98 rfl (by decide) ?_
              refine j_goto hX 17 dX6_blocking_101 (by decide) ?_
              exact j_at (L' := [(0, .ref b), (1, .int (iZ (t : Int))), (2, .long (lZ x)), (4, .int (iZ ((o : Nat) : Int))), (5, .int (iZ (((j + 1) : Nat) : Int)))]) (hjo (ih2 (j + 1) x (by omega) (hx.keep (fun y hy => blkU_up hy) (fun y hy => by rcases blkU_step hy with z | ⟨z1, z2, z3⟩; exact Or.inl z; exact Or.inr (by omega))) hx9)) ⟨rfl, rfl, rfl, rfl, rfl, trivial⟩
            · refine j_aload_n hX dX6_blocking_70 rfl ?_
              refine j_aload_n hX dX6_blocking_71 rfl ?_
              refine j_get hX fl_X6_38_8 dX6_blocking_72 h_M (by rfl) ?_
              refine j_iload hX dX6_blocking_75 rfl ?_
              refine j_ialdN hX (10 * o - 10 + j) (by omega) dX6_blocking_77 h_a9 (by omega) (by decide) ?_
              refine j_aload_n hX dX6_blocking_78 rfl ?_
              refine j_get hX fl_X6_16_8 dX6_blocking_79 h_M (by rfl) ?_
              refine j_iload_n hX dX6_blocking_82 rfl ?_
              refine j_ialdN hX _ rfl dX6_blocking_83 h_a2 (by omega) (by decide) ?_
              refine j_callV hX cv_X6_97 (c6_reaches hM hO (by omega) (by omega)) dX6_blocking_84 h_M rfl rfl (by exact ⟨Nat.le_of_ble_eq_true rfl, Nat.le_of_ble_eq_true rfl⟩) (by exact ⟨Nat.le_of_ble_eq_true rfl, Nat.le_of_ble_eq_true rfl⟩) (by exact Nat.le_of_ble_eq_true rfl) (fun v84 h84 hp84 => ?_) rfl
              obtain ⟨⟨y84, rfl, hf84⟩, rfl⟩ := hp84
              have hy84 : y84 = 0 ∨ y84 = 1 := by rcases hf84 with ⟨z, _⟩ | ⟨z, _⟩ <;> omega
              refine j_if_eq hX 98 dX6_blocking_87 (by decide) (by omega) (fun c87 => ?_) (fun c87 => ?_)
              · refine j_iinc hX dX6_blocking_98 rfl (by decide) ?_
                refine j_goto hX 17 dX6_blocking_101 (by decide) ?_
                exact j_at (L' := [(0, .ref b), (1, .int (iZ (t : Int))), (2, .long (lZ x)), (4, .int (iZ ((o : Nat) : Int))), (5, .int (iZ (((j + 1) : Nat) : Int)))]) (hjo (ih2 (j + 1) x (by omega) (hx.keep (fun y hy => blkU_up hy) (fun y hy => by rcases blkU_step hy with z | ⟨z1, z2, z3⟩; exact Or.inl z; rcases hf84 with ⟨z9, _⟩ | ⟨_, z9⟩; omega; exact absurd z2 z9)) hx9)) ⟨rfl, rfl, rfl, rfl, rfl, trivial⟩
              · have hf84 : reach σ n (σ 9 (10 * o - 10 + j)) (σ 2 t) := by rcases hf84 with ⟨_, z⟩ | ⟨z, _⟩; exact z; omega
                refine j_aload_n hX dX6_blocking_90 rfl ?_
                refine j_get hX fl_X6_41_8 dX6_blocking_91 h_M (by rfl) ?_
                refine j_iload hX dX6_blocking_94 rfl ?_
                refine j_laldN hX (10 * o - 10 + j) (by omega) dX6_blocking_96 h_a10 (by omega) (by decide) ?_
                refine j_lstore_n hX dX6_blocking_97 (by decide) ?_
                refine j_iinc hX dX6_blocking_98 rfl (by decide) ?_
                refine j_goto hX 17 dX6_blocking_101 (by decide) ?_
                exact j_at (L' := [(0, .ref b), (1, .int (iZ (t : Int))), (2, .long (lZ _)), (4, .int (iZ ((o : Nat) : Int))), (5, .int (iZ (((j + 1) : Nat) : Int)))]) (hjo (ih2 (j + 1) _ (by omega) (hx.more (by omega) ⟨o, j, by omega, by omega, by omega, hjl, by omega, hf84, rfl⟩ (fun y hy => by rcases blkU_step hy with z | ⟨z1, z2, z3⟩; exact Or.inl z; exact Or.inr (by omega))) (by omega))) ⟨rfl, rfl, rfl, rfl, rfl, trivial⟩
      refine hji ?_
      refine j_iload hX dX6_blocking_5 rfl ?_
      refine j_aload_n hX dX6_blocking_7 rfl ?_
      refine j_get hX fl_X6_67_8 dX6_blocking_8 h_M (by rfl) ?_
      refine j_icmp_gt hX 110 dX6_blocking_11 (by decide) (by omega) (by omega) (fun c11 => absurd c11 (by omega)) (fun c11 => ?_)
      refine j_iconst hX dX6_blocking_14 ?_
      refine j_istore hX dX6_blocking_15 (by decide) ?_
      exact j_at (L' := [(0, .ref b), (1, .int (iZ (t : Int))), (2, .long (lZ x)), (4, .int (iZ ((o : Nat) : Int))), (5, .int (iZ ((0 : Nat) : Int)))]) (hjo (lq (σ 8 o).toNat 0 x (by omega) hx hx9)) ⟨rfl, rfl, rfl, rfl, rfl, trivial⟩
  refine hji ?_
  refine j_lconst0 hX dX6_blocking_0 ?_
  refine j_lstore_n hX dX6_blocking_1 (by decide) ?_
  refine j_iconst hX dX6_blocking_2 ?_
  refine j_istore hX dX6_blocking_3 (by decide) ?_
  exact j_at (L' := [(0, .ref b), (1, .int (iZ (t : Int))), (2, .long (lZ 0)), (4, .int (iZ ((1 : Nat) : Int)))]) (hjo (lp n 1 0 (by omega) (by omega) (isMax.zero (fun y => by rintro ⟨o, i, h1, h2, h3, h4⟩; omega)) (by omega))) ⟨rfl, rfl, rfl, rfl, trivial⟩
theorem blk_is {σ : St} {n m t : Nat} (hO : OK n m σ) : isMax (blkS σ n t) (blk σ n t) := by
  have hex : ∃ x, isMax (blkS σ n t) x := by
    have h : ∀ k : Nat, (∀ y, blkS σ n t y → y ≤ (k : Int)) → ∃ x, isMax (blkS σ n t) x := by
      intro k
      induction k with
      | zero => intro hk; exact ⟨0, Or.inl rfl, Int.le_refl 0, fun y hy => by have := hk y hy; omega⟩
      | succ k ih =>
        intro hk
        by_cases e : blkS σ n t ((k + 1 : Nat) : Int)
        · exact ⟨_, Or.inr e, by omega, hk⟩
        · refine ih (fun y hy => ?_)
          have := hk y hy
          by_cases e2 : y = ((k + 1 : Nat) : Int)
          · subst e2; exact absurd hy e
          · omega
    refine h 1000 (fun y hy => ?_)
    obtain ⟨o, j, h1, h2, h3, h4, h5, h6⟩ := hy
    have := ((hO.2.2.1 o h1 h2).2.2.2.2.2.2.2.2.2 j h3).2
    omega
  exact Classical.epsilon_spec hex
theorem blk_b {σ : St} {n m t : Nat} (hO : OK n m σ) : 0 ≤ blk σ n t ∧ blk σ n t ≤ 1000 := blkS_b hO (blk_is hO)
set_option maxRecDepth 100000 in
set_option maxHeartbeats 4000000 in
theorem c6_need {l : Launch} {G : Gt} {B : Nat} {h : hF} {b : Nat} {A9 : Nat → Nat} {σ : St} {n m : Nat} {sp tu th : Int} (hM : Mo G h b A9 σ n m sp tu th) {t : Nat} (ht : 1 ≤ t ∧ t ≤ n) (hO : OK n m σ) {q w Bq : Int} (hq : 0 ≤ q ∧ q ≤ 500) (hw : 0 ≤ w ∧ w ≤ 40000) (hB : 0 ≤ Bq ∧ Bq ≤ 1000) : Ct l G B yX6_need cX6_need 10 (some .long) 2 0 0 [.ref b, .int (iZ (t : Int)), .int (iZ q), .long (lZ Bq), .long (lZ w)] h (fun v h' => v = .long (lZ (nee σ n m t Bq q w)) ∧ h = h') := by
  refine Ct.of (by decide) (Nat.le_of_ble_eq_true rfl) ?_
  intro p e s m9 below meth c A hX hR hin
  have h_M := hM.1
  have h_a2 := hM.a2
  have h_a12 := hM.a12
  have h_a13 := hM.a13
  have hn16 := hO.1
  have hm8 := hO.2.1
  obtain ⟨o0, o1, o2, o3, o4, o5, o6, o7, o8, o9⟩ := hO.2.2.1 t ht.1 ht.2
  have hc : 1 ≤ cosT σ t ∧ cosT σ t ≤ 2000 := by unfold cosT; omega
  have hq9 := mulb (a := q + 1) (A := 501) (b := cosT σ t) (B := 2000) (by omega) (by omega)
  have hw9 : 0 ≤ w ∧ w ≤ 1000000 := by omega
  refine J_abs (J0 := J p l e _ s m9 _ below meth c _ _ G A) ?_
  intro JX hji hjo
  have li : ∀ (d o : Nat) (x : Int), d + o = m + 1 → 1 ≤ o → x = (q + 1) * cosT σ t + Bq + takT σ t n w + takI σ (o - 1) w → JX 0 0 77 [(0, .ref b), (1, .int (iZ (t : Int))), (2, .int (iZ q)), (3, .long (lZ Bq)), (5, .long (lZ w)), (7, .long (lZ x)), (9, .int (iZ ((o : Nat) : Int)))] [] h := by
    intro d
    induction d with
    | zero =>
      intro o x hd ho hx
      refine hji ?_
      refine j_iload hX dX6_need_77 rfl ?_
      refine j_aload_n hX dX6_need_79 rfl ?_
      refine j_get hX fl_X6_90_8 dX6_need_80 h_M (by rfl) ?_
      refine j_icmp_gt hX 117 dX6_need_83 (by decide) (by omega) (by omega) (fun c83 => ?_) (fun c83 => absurd c83 (by omega))
      refine j_lload hX dX6_need_117 rfl ?_
      exact j_lret hX hR dX6_need_119 ⟨by rw [hx, show o - 1 = m by omega]; rfl, rfl⟩
    | succ d ih =>
      intro o x hd ho hx
      obtain ⟨i0, i1⟩ := hO.2.2.2 o (by omega) (by omega)
      have hu := upw_b (b := σ 13 o) hw9 i1.1
      have hmu := mulb hu (show 0 ≤ σ 12 o ∧ σ 12 o ≤ 1000 by omega)
      obtain ⟨o1, rfl⟩ : ∃ o1, o = o1 + 1 := ⟨o - 1, by omega⟩
      refine hji ?_
      refine j_iload hX dX6_need_77 rfl ?_
      refine j_aload_n hX dX6_need_79 rfl ?_
      refine j_get hX fl_X6_90_8 dX6_need_80 h_M (by rfl) ?_
      refine j_icmp_gt hX 117 dX6_need_83 (by decide) (by omega) (by omega) (fun c83 => absurd c83 (by omega)) (fun c83 => ?_)
      refine j_lload hX dX6_need_86 rfl ?_
      refine j_lload hX dX6_need_88 rfl ?_
      refine j_aload_n hX dX6_need_90 rfl ?_
      refine j_get hX fl_X6_47_8 dX6_need_91 h_M (by rfl) ?_
      refine j_iload hX dX6_need_94 rfl ?_
      refine j_laldN hX _ rfl dX6_need_96 h_a13 (by omega) (by decide) ?_
      refine j_callS hX cs_X6_93 (c6_upwards (by omega) (by omega)) dX6_need_97 rfl (by exact ⟨Nat.le_of_ble_eq_true rfl, Nat.le_of_ble_eq_true rfl⟩) (by exact ⟨Nat.le_of_ble_eq_true rfl, Nat.le_of_ble_eq_true rfl⟩) (by exact Nat.le_of_ble_eq_true rfl) (fun v97 h97 hp97 => ?_) rfl
      obtain ⟨rfl, rfl⟩ := hp97
      refine j_aload_n hX dX6_need_100 rfl ?_
      refine j_get hX fl_X6_44_8 dX6_need_101 h_M (by rfl) ?_
      refine j_iload hX dX6_need_104 rfl ?_
      refine j_laldN hX _ rfl dX6_need_106 h_a12 (by omega) (by decide) ?_
      refine j_lmul hX dX6_need_107 ?_
      refine j_ladd hX dX6_need_108 ?_
      refine j_lstore hX dX6_need_109 (by decide) ?_
      refine j_iinc hX dX6_need_111 rfl (by decide) ?_
      refine j_goto hX 77 dX6_need_114 (by decide) ?_
      exact j_at (L' := [(0, .ref b), (1, .int (iZ (t : Int))), (2, .int (iZ q)), (3, .long (lZ Bq)), (5, .long (lZ w)), (7, .long (lZ _)), (9, .int (iZ (((o1 + 1 + 1) : Nat) : Int)))]) (hjo (ih (o1 + 1 + 1) _ (by omega) (by omega) (by rw [hx]; show _ = _ + (takI σ o1 w + _); rw [show o1 + 1 - 1 = o1 by omega]; omega))) ⟨rfl, rfl, rfl, rfl, rfl, rfl, rfl, trivial⟩
  have lp : ∀ (d o : Nat) (x : Int), d + o = n + 1 → 1 ≤ o → x = (q + 1) * cosT σ t + Bq + takT σ t (o - 1) w → JX 0 0 17 [(0, .ref b), (1, .int (iZ (t : Int))), (2, .int (iZ q)), (3, .long (lZ Bq)), (5, .long (lZ w)), (7, .long (lZ x)), (9, .int (iZ ((o : Nat) : Int)))] [] h := by
    intro d
    induction d with
    | zero =>
      intro o x hd ho hx
      refine hji ?_
      refine j_iload hX dX6_need_17 rfl ?_
      refine j_aload_n hX dX6_need_19 rfl ?_
      refine j_get hX fl_X6_67_8 dX6_need_20 h_M (by rfl) ?_
      refine j_icmp_gt hX 74 dX6_need_23 (by decide) (by omega) (by omega) (fun c23 => ?_) (fun c23 => absurd c23 (by omega))
      refine j_iconst hX dX6_need_74 ?_
      refine j_istore hX dX6_need_75 (by decide) ?_
      exact j_at (L' := [(0, .ref b), (1, .int (iZ (t : Int))), (2, .int (iZ q)), (3, .long (lZ Bq)), (5, .long (lZ w)), (7, .long (lZ x)), (9, .int (iZ ((1 : Nat) : Int)))]) (hjo (li m 1 x (by omega) (by omega) (by rw [hx, show o - 1 = n by omega]; show _ = _ + 0; omega))) ⟨rfl, rfl, rfl, rfl, rfl, rfl, rfl, trivial⟩
    | succ d ih =>
      intro o x hd ho hx
      obtain ⟨a0, a1, a2, a3, a4, a5, a6, a7, a8, a9⟩ := hO.2.2.1 o (by omega) (by omega)
      have hu : 0 ≤ actT σ o w ∧ actT σ o w ≤ 1000000 := acts_b a5.1 a4 a3 a1.1 hw9
      have hmu := mulb hu (show 0 ≤ cosT σ o ∧ cosT σ o ≤ 2000 by unfold cosT; omega)
      obtain ⟨o1, rfl⟩ : ∃ o1, o = o1 + 1 := ⟨o - 1, by omega⟩
      refine hji ?_
      refine j_iload hX dX6_need_17 rfl ?_
      refine j_aload_n hX dX6_need_19 rfl ?_
      refine j_get hX fl_X6_67_8 dX6_need_20 h_M (by rfl) ?_
      refine j_icmp_gt hX 74 dX6_need_23 (by decide) (by omega) (by omega) (fun c23 => absurd c23 (by omega)) (fun c23 => ?_)
      refine j_iload hX dX6_need_26 rfl ?_
      refine j_iload_n hX dX6_need_28 rfl ?_
      refine j_icmp_eq hX 68 dX6_need_29 (by decide) (by omega) (by omega) (fun c29 => ?_) (fun c29 => ?_)
      · refine j_iinc hX dX6_need_68 rfl (by decide) ?_
        refine j_goto hX 17 dX6_need_71 (by decide) ?_
        exact j_at (L' := [(0, .ref b), (1, .int (iZ (t : Int))), (2, .int (iZ q)), (3, .long (lZ Bq)), (5, .long (lZ w)), (7, .long (lZ _)), (9, .int (iZ (((o1 + 1 + 1) : Nat) : Int)))]) (hjo (ih (o1 + 1 + 1) _ (by omega) (by omega) (by rw [hx]; show _ = _ + (takT σ t o1 w + _); rw [show o1 + 1 - 1 = o1 by omega, if_neg (fun z => z.1 (by omega))]; omega))) ⟨rfl, rfl, rfl, rfl, rfl, rfl, rfl, trivial⟩
      · refine j_aload_n hX dX6_need_32 rfl ?_
        refine j_get hX fl_X6_16_8 dX6_need_33 h_M (by rfl) ?_
        refine j_iload hX dX6_need_36 rfl ?_
        refine j_ialdN hX _ rfl dX6_need_38 h_a2 (by omega) (by decide) ?_
        refine j_aload_n hX dX6_need_39 rfl ?_
        refine j_get hX fl_X6_16_8 dX6_need_40 h_M (by rfl) ?_
        refine j_iload_n hX dX6_need_43 rfl ?_
        refine j_ialdN hX _ rfl dX6_need_44 h_a2 (by omega) (by decide) ?_
        refine j_icmp_lt hX 68 dX6_need_45 (by decide) (by omega) (by omega) (fun c45 => ?_) (fun c45 => ?_)
        · refine j_iinc hX dX6_need_68 rfl (by decide) ?_
          refine j_goto hX 17 dX6_need_71 (by decide) ?_
          exact j_at (L' := [(0, .ref b), (1, .int (iZ (t : Int))), (2, .int (iZ q)), (3, .long (lZ Bq)), (5, .long (lZ w)), (7, .long (lZ _)), (9, .int (iZ (((o1 + 1 + 1) : Nat) : Int)))]) (hjo (ih (o1 + 1 + 1) _ (by omega) (by omega) (by rw [hx]; show _ = _ + (takT σ t o1 w + _); rw [show o1 + 1 - 1 = o1 by omega, if_neg (fun z => by omega)]; omega))) ⟨rfl, rfl, rfl, rfl, rfl, rfl, rfl, trivial⟩
        · refine j_lload hX dX6_need_48 rfl ?_
          refine j_aload_n hX dX6_need_50 rfl ?_
          refine j_iload hX dX6_need_51 rfl ?_
          refine j_lload hX dX6_need_53 rfl ?_
          refine j_callV hX cv_X6_105 (c6_comes hM (by omega) hO hw9) dX6_need_55 h_M rfl rfl (by exact ⟨Nat.le_of_ble_eq_true rfl, Nat.le_of_ble_eq_true rfl⟩) (by exact ⟨Nat.le_of_ble_eq_true rfl, Nat.le_of_ble_eq_true rfl⟩) (by exact Nat.le_of_ble_eq_true rfl) (fun v55 h55 hp55 => ?_) rfl
          obtain ⟨rfl, rfl⟩ := hp55
          refine j_aload_n hX dX6_need_58 rfl ?_
          refine j_iload hX dX6_need_59 rfl ?_
          refine j_callV hX cv_X6_101 (c6_cost hM (by omega) hO) dX6_need_61 h_M rfl rfl (by exact ⟨Nat.le_of_ble_eq_true rfl, Nat.le_of_ble_eq_true rfl⟩) (by exact ⟨Nat.le_of_ble_eq_true rfl, Nat.le_of_ble_eq_true rfl⟩) (by exact Nat.le_of_ble_eq_true rfl) (fun v61 h61 hp61 => ?_) rfl
          obtain ⟨rfl, rfl⟩ := hp61
          refine j_lmul hX dX6_need_64 ?_
          refine j_ladd hX dX6_need_65 ?_
          refine j_lstore hX dX6_need_66 (by decide) ?_
          refine j_iinc hX dX6_need_68 rfl (by decide) ?_
          refine j_goto hX 17 dX6_need_71 (by decide) ?_
          exact j_at (L' := [(0, .ref b), (1, .int (iZ (t : Int))), (2, .int (iZ q)), (3, .long (lZ Bq)), (5, .long (lZ w)), (7, .long (lZ _)), (9, .int (iZ (((o1 + 1 + 1) : Nat) : Int)))]) (hjo (ih (o1 + 1 + 1) _ (by omega) (by omega) (by rw [hx]; show _ = _ + (takT σ t o1 w + _); rw [show o1 + 1 - 1 = o1 by omega, if_pos ⟨by omega, by omega⟩]; omega))) ⟨rfl, rfl, rfl, rfl, rfl, rfl, rfl, trivial⟩
  refine hji ?_
  refine j_iload_n hX dX6_need_0 rfl ?_
  refine j_iconst hX dX6_need_1 ?_
  refine j_iadd hX dX6_need_2 ?_
  refine j_i2l hX dX6_need_3 (by omega) ?_
  refine j_aload_n hX dX6_need_4 rfl ?_
  refine j_iload_n hX dX6_need_5 rfl ?_
  refine j_callV hX cv_X6_101 (c6_cost hM ht hO) dX6_need_6 h_M rfl rfl (by exact ⟨Nat.le_of_ble_eq_true rfl, Nat.le_of_ble_eq_true rfl⟩) (by exact ⟨Nat.le_of_ble_eq_true rfl, Nat.le_of_ble_eq_true rfl⟩) (by exact Nat.le_of_ble_eq_true rfl) (fun v6 h6 hp6 => ?_) rfl
  obtain ⟨rfl, rfl⟩ := hp6
  refine j_lmul hX dX6_need_9 ?_
  refine j_lload_n hX dX6_need_10 rfl ?_
  refine j_ladd hX dX6_need_11 ?_
  refine j_lstore hX dX6_need_12 (by decide) ?_
  refine j_iconst hX dX6_need_14 ?_
  refine j_istore hX dX6_need_15 (by decide) ?_
  exact j_at (L' := [(0, .ref b), (1, .int (iZ (t : Int))), (2, .int (iZ q)), (3, .long (lZ Bq)), (5, .long (lZ w)), (7, .long (lZ _)), (9, .int (iZ ((1 : Nat) : Int)))]) (hjo (lp n 1 _ (by omega) (by omega) (by show _ = _ + 0; omega))) ⟨rfl, rfl, rfl, rfl, rfl, rfl, rfl, trivial⟩
