/-! THE CLASS: Phases: run, start, take -/
def RelP (n : Nat) (F : St) (x : Rs) : Prop := ∀ i : Nat, i < n → F 12 i = x.1 (i + 1) ∧ F 13 i = x.2.1 (i + 1) ∧ F 7 i = x.2.2 (i + 1)
theorem RelP.step {σ : St} {n : Nat} {F : St} {x : Rs} {en k : Int} (hS : STA σ n F) (h : RelP n F x) {i : Nat} (hi : i < n) : RelP n (wrk en i k F) (stpW σ en k (i + 1) x) ∧ ∀ j : Nat, 8 ≤ j → j ≤ 11 → wrk en i k F j = F j := by
  obtain ⟨a1, a2, a3⟩ := h i hi
  obtain ⟨s1, s2, s3, s4⟩ := hS i hi
  unfold wrk stpW
  rw [← a2]
  split
  · refine ⟨fun o ho => ?_, fun j j1 j2 => by rw [sup_ne (by omega), sup_ne (by omega), sup_ne (by omega)]⟩
    obtain ⟨b1, b2, b3⟩ := h o ho
    refine ⟨?_, ?_, ?_⟩
    · show zup (F 12) i _ o = zup x.1 (i + 1) _ (o + 1)
      unfold zup
      by_cases e : o = i
      · subst e; rw [if_pos rfl, if_pos rfl, a1, s3]
      · rw [if_neg e, if_neg (by omega)]; exact b1
    · show zup (F 13) i _ o = zup x.2.1 (i + 1) _ (o + 1)
      unfold zup
      by_cases e : o = i
      · subst e; rw [if_pos rfl, if_pos rfl, s2]
      · rw [if_neg e, if_neg (by omega)]; exact b2
    · show (if F 12 i < en then zup (F 7) i (mx2 (F 7 i) (k + 1 - F 12 i)) else F 7) o = (if x.1 (i + 1) < en then zup x.2.2 (i + 1) (mx2 (x.2.2 (i + 1)) (k + 1 - x.1 (i + 1))) else x.2.2) (o + 1)
      rw [a1, a3]
      split
      · unfold zup
        by_cases e : o = i
        · subst e; rw [if_pos rfl, if_pos rfl]
        · rw [if_neg e, if_neg (by omega)]; exact b3
      · exact b3
  · refine ⟨fun o ho => ?_, fun j j1 j2 => by rw [sup_ne (by omega)]⟩
    obtain ⟨b1, b2, b3⟩ := h o ho
    refine ⟨b1, ?_, b3⟩
    show zup (F 13) i _ o = zup x.2.1 (i + 1) _ (o + 1)
    unfold zup
    by_cases e : o = i
    · subst e; rw [if_pos rfl, if_pos rfl]
    · rw [if_neg e, if_neg (by omega)]; exact b2
theorem STA.keep {σ : St} {n : Nat} {F F' : St} (hS : STA σ n F) (e : ∀ j : Nat, 8 ≤ j → j ≤ 11 → F' j = F j) : STA σ n F' := fun i hi => by
  rw [e 8 (by omega) (by omega), e 9 (by omega) (by omega), e 10 (by omega) (by omega), e 11 (by omega) (by omega)]
  exact hS i hi
set_option maxRecDepth 100000 in
set_option maxHeartbeats 4000000 in
theorem c_run {l : Launch} {G : Gt} {B : Nat} {h : hF} {AD : Nat → Nat} {kn ct en : Int} {F : St} (hP : PS G h AD kn ct en F) (hI9 : PI AD) {n m : Nat} (hct : ct = (n : Int)) {σ : St} (hO : OK n m σ) (hR9 : RUN σ n) (hen : 0 ≤ en ∧ en ≤ 180) {φ M : Nat → Int} (hφ : ∀ t : Nat, 1 ≤ t → t ≤ n → 0 ≤ φ t ∧ φ t < σ 1 t) (hMM : ∀ t : Nat, 1 ≤ t → t ≤ n → 0 ≤ M t ∧ M t ≤ 50000) (hSt : STA σ n F) (hR0 : RelP n F (st0 σ φ M)) : Cv l G B yX3_run cX3_run 3 2 0 0 [.ref (AD 6)] h (fun h' => ∃ F1 : St, PS G h' AD kn ct en F1 ∧ Fp h h' AD ∧ (∀ j : Nat, 8 ≤ j → j ≤ 11 → F1 j = F j) ∧ ∀ i : Nat, i < n → F1 7 i = (run σ n en (st0 σ φ M) hz).2.2 (i + 1)) := by
  refine Cv.of (by decide) (Nat.le_of_ble_eq_true rfl) ?_
  intro p e s m9 below meth c A hX hR hin
  subst hct
  have hn3 := hR9.1
  refine J_abs (J0 := J p l e _ s m9 _ below meth c _ _ G A) ?_
  intro JX hji hjo
  have lp : ∀ (d k : Nat) (F1 : St) (h1 : hF), d + k = 20001 → PS G h1 AD kn n en F1 → Fp h h1 AD → (∀ j : Nat, 8 ≤ j → j ≤ 11 → F1 j = F j) → RelP n F1 (run σ n en (st0 σ φ M) k) → JX 0 0 2 [(0, .ref (AD 6)), (1, .int (iZ ((k : Nat) : Int)))] [] h1 := by
    intro d
    induction d with
    | zero =>
      intro k F1 h1 hd hP1 hF1 hst hRl
      have hri := RI_run hO (M := M) (en := en) hφ k
      have hmx := run_max (σ := σ) (n := n) (en := en) (φ := φ) (M := M) k
      have hM0 := fun t => run_M0 (σ := σ) (n := n) (en := en) (φ := φ) (fun o a1 a2 => (hφ o a1 a2).1) (fun k2 o a1 a2 => by have q1 := RI_run hO (M := fun _ => 0) (en := en) hφ k2 o a1 a2; have q2 := hφ o a1 a2; omega) k t
      have hMb : ∀ j : Nat, 1 ≤ j → j ≤ n → 0 ≤ (run σ n en (st0 σ φ M) k).2.2 j ∧ (run σ n en (st0 σ φ M) k).2.2 j ≤ 50000 := fun j j1 j2 => by
        rw [hmx.2.2 j (hMM j j1 j2).1]
        have z1 := hM0 j; have z2 := hMM j j1 j2
        unfold mx2; split <;> omega
      have hF12 : ∀ i : Nat, i < n → 0 ≤ F1 12 i ∧ F1 12 i ≤ 1000000 := fun i hi => by
        obtain ⟨e1, -, -⟩ := hRl i hi
        obtain ⟨-, -, e4⟩ := hri (i + 1) (by omega) (by omega)
        have e3 := (hri (i + 1) (by omega) (by omega)).2.1
        have e5 := hφ (i + 1) (by omega) (by omega)
        obtain ⟨-, o1, -⟩ := hO.2.2.1 (i + 1) (by omega) (by omega)
        omega
      have h_P := hP1.1
      have hall : ∀ i : Nat, i < n → en ≤ F1 12 i := fun i hi => by
        obtain ⟨e1, -, -⟩ := hRl i hi
        rw [e1]; exact run_ends hO hR9 (M := M) hen hφ ⟨by omega, by omega⟩ (by omega)
      refine hji ?_
      refine j_iload_n hX dX3_run_2 rfl ?_
      refine j_ldc hX k_X3_102 (z := 1000000) (by decide) dX3_run_3 ?_
      refine j_icmp_ge hX 37 dX3_run_5 (by decide) (by omega) (by omega) (fun c5 => absurd c5 (by omega)) (fun c5 => ?_)
      refine j_aload_n hX dX3_run_8 rfl ?_
      refine j_callV hX cv_X3_103 (c_hasMore hP1 rfl hn3 hen hF12) dX3_run_9 h_P rfl rfl (by exact ⟨Nat.le_of_ble_eq_true rfl, Nat.le_of_ble_eq_true rfl⟩) (by exact ⟨Nat.le_of_ble_eq_true rfl, Nat.le_of_ble_eq_true rfl⟩) (by exact Nat.le_of_ble_eq_true rfl) (fun v9 h9 hp9 => ?_) rfl
      obtain ⟨⟨y9, rfl, hy9⟩, rfl⟩ := hp9
      have hy1 : y9 = 0 ∨ y9 = 1 := by rcases hy9 with ⟨q, _⟩ | ⟨q, _⟩ <;> omega
      refine j_if_eq hX 37 dX3_run_12 (by decide) (by omega) (fun c12 => ?_) (fun c12 => absurd c12 (by rcases hy9 with ⟨_, j, j1, j2⟩ | ⟨q, _⟩; have := hall j j1; omega; omega))
      exact j_vret hX hR dX3_run_37 ⟨F1, hP1, hF1, hst, fun i hi => by obtain ⟨e1, -, e3⟩ := hRl i hi; rw [e3]; have hov := (over_run hO (en := en) (x := st0 σ φ M) (t := i + 1) ⟨by omega, by omega⟩ k (hz - k)).2 (by have := hall i hi; omega); rw [show k + (hz - k) = hz by unfold hz; omega] at hov; exact hov.symm⟩
    | succ d ih =>
      intro k F1 h1 hd hP1 hF1 hst hRl
      have hri := RI_run hO (M := M) (en := en) hφ k
      have hmx := run_max (σ := σ) (n := n) (en := en) (φ := φ) (M := M) k
      have hM0 := fun t => run_M0 (σ := σ) (n := n) (en := en) (φ := φ) (fun o a1 a2 => (hφ o a1 a2).1) (fun k2 o a1 a2 => by have q1 := RI_run hO (M := fun _ => 0) (en := en) hφ k2 o a1 a2; have q2 := hφ o a1 a2; omega) k t
      have hMb : ∀ j : Nat, 1 ≤ j → j ≤ n → 0 ≤ (run σ n en (st0 σ φ M) k).2.2 j ∧ (run σ n en (st0 σ φ M) k).2.2 j ≤ 50000 := fun j j1 j2 => by
        rw [hmx.2.2 j (hMM j j1 j2).1]
        have z1 := hM0 j; have z2 := hMM j j1 j2
        unfold mx2; split <;> omega
      have hF12 : ∀ i : Nat, i < n → 0 ≤ F1 12 i ∧ F1 12 i ≤ 1000000 := fun i hi => by
        obtain ⟨e1, -, -⟩ := hRl i hi
        obtain ⟨-, -, e4⟩ := hri (i + 1) (by omega) (by omega)
        have e3 := (hri (i + 1) (by omega) (by omega)).2.1
        have e5 := hφ (i + 1) (by omega) (by omega)
        obtain ⟨-, o1, -⟩ := hO.2.2.1 (i + 1) (by omega) (by omega)
        omega
      have h_P := hP1.1
      have hnx : (run σ n en (st0 σ φ M) (k + 1)) = stp σ n en k (run σ n en (st0 σ φ M) k) := rfl
      have hcl := chF_le σ (run σ n en (st0 σ φ M) k).1 (k : Int) n
      have hSt1 := hSt.keep hst
      refine hji ?_
      refine j_iload_n hX dX3_run_2 rfl ?_
      refine j_ldc hX k_X3_102 (z := 1000000) (by decide) dX3_run_3 ?_
      refine j_icmp_ge hX 37 dX3_run_5 (by decide) (by omega) (by omega) (fun c5 => absurd c5 (by omega)) (fun c5 => ?_)
      refine j_aload_n hX dX3_run_8 rfl ?_
      refine j_callV hX cv_X3_103 (c_hasMore hP1 rfl hn3 hen hF12) dX3_run_9 h_P rfl rfl (by exact ⟨Nat.le_of_ble_eq_true rfl, Nat.le_of_ble_eq_true rfl⟩) (by exact ⟨Nat.le_of_ble_eq_true rfl, Nat.le_of_ble_eq_true rfl⟩) (by exact Nat.le_of_ble_eq_true rfl) (fun v9 h9 hp9 => ?_) rfl
      obtain ⟨⟨y9, rfl, hy9⟩, rfl⟩ := hp9
      have hy1 : y9 = 0 ∨ y9 = 1 := by rcases hy9 with ⟨q, _⟩ | ⟨q, _⟩ <;> omega
      refine j_if_eq hX 37 dX3_run_12 (by decide) (by omega) (fun c12 => ?_) (fun c12 => ?_)
      · have hall : ∀ i : Nat, i < n → en ≤ F1 12 i := fun i hi => by
          rcases hy9 with ⟨q, _⟩ | ⟨_, q⟩
          · omega
          · rcases Int.lt_or_le (F1 12 i) en with z | z
            · exact absurd ⟨i, hi, z⟩ q
            · exact z
        exact j_vret hX hR dX3_run_37 ⟨F1, hP1, hF1, hst, fun i hi => by obtain ⟨e1, -, e3⟩ := hRl i hi; rw [e3]; have hov := (over_run hO (en := en) (x := st0 σ φ M) (t := i + 1) ⟨by omega, by omega⟩ k (hz - k)).2 (by have := hall i hi; omega); rw [show k + (hz - k) = hz by unfold hz; omega] at hov; exact hov.symm⟩
      · refine j_aload_n hX dX3_run_15 rfl ?_
        refine j_iload_n hX dX3_run_16 rfl ?_
        refine j_callV hX cv_X3_107 (c_chosenAt hP1 rfl hn3 (σ := σ) (O := (run σ n en (st0 σ φ M) k).1) (k := k) (by omega) (fun i hi => by obtain ⟨e1, -, -⟩ := hRl i hi; obtain ⟨s1, -⟩ := hSt1 i hi; have e5 := hF12 i hi; obtain ⟨-, -, o2, -⟩ := hO.2.2.1 (i + 1) (by omega) (by omega); exact ⟨⟨s1, o2⟩, e1, by omega, by omega⟩)) dX3_run_17 h_P rfl rfl (by exact ⟨Nat.le_of_ble_eq_true rfl, Nat.le_of_ble_eq_true rfl⟩) (by exact ⟨Nat.le_of_ble_eq_true rfl, Nat.le_of_ble_eq_true rfl⟩) (by exact Nat.le_of_ble_eq_true rfl) (fun v17 h17 hp17 => ?_) rfl
        obtain ⟨rfl, rfl⟩ := hp17
        generalize hcc : chF σ (run σ n en (st0 σ φ M) k).1 (k : Int) n = bs at *
        refine j_istore_n hX dX3_run_20 (by decide) ?_
        refine j_iload_n hX dX3_run_21 rfl ?_
        refine j_if_lt hX 31 dX3_run_22 (by decide) (by omega) (fun c22 => ?_) (fun c22 => ?_)
        · refine j_iinc hX dX3_run_31 rfl (by decide) ?_
          refine j_goto hX 2 dX3_run_34 (by decide) ?_
          have hst9 : stp σ n en k (run σ n en (st0 σ φ M) k) = (run σ n en (st0 σ φ M) k) := by unfold stp; rw [hcc, if_pos (by omega)]
          exact j_at (L' := [(0, .ref (AD 6)), (1, .int (iZ (((k + 1) : Nat) : Int)))]) (hjo (ih (k + 1) F1 _ (by omega) hP1 hF1 hst (by rw [hnx, hst9]; exact hRl))) ⟨rfl, rfl, trivial⟩
        · obtain ⟨b9, rfl⟩ : ∃ b9, bs = b9 + 1 := ⟨bs - 1, by omega⟩
          rw [show (((b9 + 1 : Nat) : Int) - 1) = (b9 : Int) by omega]
          have hst9 : stp σ n en k (run σ n en (st0 σ φ M) k) = stpW σ en k (b9 + 1) (run σ n en (st0 σ φ M) k) := by unfold stp; rw [hcc, if_neg (by omega)]
          obtain ⟨e1, e2, e3⟩ := hRl b9 (by omega)
          obtain ⟨⟨g1, g2⟩, g3, g4⟩ := hri (b9 + 1) (by omega) (by omega)
          have e5 := hF12 b9 (by omega)
          have e6 := hMb (b9 + 1) (by omega) (by omega)
          obtain ⟨o0, -⟩ := hO.2.2.1 (b9 + 1) (by omega) (by omega)
          refine j_aload_n hX dX3_run_25 rfl ?_
          refine j_iload_n hX dX3_run_26 rfl ?_
          refine j_iload_n hX dX3_run_27 rfl ?_
          refine j_callVv hX cv_X3_111 (c_work hP1 hI9 (i := b9) (k := k) (by omega) (by omega) ⟨by omega, by omega, by omega⟩ hen) dX3_run_28 h_P rfl rfl (by exact ⟨Nat.le_of_ble_eq_true rfl, Nat.le_of_ble_eq_true rfl⟩) (by exact ⟨Nat.le_of_ble_eq_true rfl, Nat.le_of_ble_eq_true rfl⟩) (by exact Nat.le_of_ble_eq_true rfl) (fun h28 hp28 => ?_) rfl
          obtain ⟨hP2, hF2⟩ := hp28
          obtain ⟨hR2, hs2⟩ := hRl.step hSt1 (en := en) (k := (k : Int)) (i := b9) (by omega)
          refine j_iinc hX dX3_run_31 rfl (by decide) ?_
          refine j_goto hX 2 dX3_run_34 (by decide) ?_
          exact j_at (L' := [(0, .ref (AD 6)), (1, .int (iZ (((k + 1) : Nat) : Int)))]) (hjo (ih (k + 1) _ _ (by omega) hP2 (hF1.tr hF2) (fun j j1 j2 => (hs2 j j1 j2).trans (hst j j1 j2)) (by rw [hnx, hst9]; exact hR2))) ⟨rfl, rfl, trivial⟩
  refine hji ?_
  refine j_iconst hX dX3_run_0 ?_
  refine j_istore_n hX dX3_run_1 (by decide) ?_
  exact j_at (L' := [(0, .ref (AD 6)), (1, .int (iZ ((0 : Nat) : Int)))]) (hjo (lp 20001 0 F h (by omega) hP (Fp.rf h AD) (fun _ _ _ => rfl) hR0)) ⟨rfl, rfl, trivial⟩
def rho (σ : St) : Nat → Int := fun j => if σ 7 j = -1 then σ 1 j else 1
def phw (σ : St) (n : Nat) (k : Int) : Nat → Int := fun j => if 1 ≤ j ∧ j ≤ n then (if σ 7 j = -1 then rst (rho σ) k (j - 1) % σ 1 j else σ 7 j) else 0
set_option maxRecDepth 100000 in
set_option maxHeartbeats 4000000 in
theorem c_startP {l : Launch} {G : Gt} {B : Nat} {h : hF} {AD : Nat → Nat} {kn ct en : Int} {F : St} (hP : PS G h AD kn ct en F) (hI9 : PI AD) {n m : Nat} (hct : ct = (n : Int)) (hn3 : n ≤ 3) {σ : St} (hO : OK n m σ) {k : Int} (hk : 0 ≤ k ∧ k ≤ 1000) (hSt : STA σ n F) : Cv l G B yX3_start cX3_start 8 1 0 0 [.ref (AD 6), .long (lZ k)] h (fun h' => ∃ F1 : St, PS G h' AD kn ct en F1 ∧ Fp h h' AD ∧ (∀ j : Nat, 7 ≤ j → j ≤ 11 → F1 j = F j) ∧ ∀ i : Nat, i < n → F1 12 i = phw σ n k (i + 1) ∧ F1 13 i = σ 0 (i + 1)) := by
  refine Cv.of (by decide) (Nat.le_of_ble_eq_true rfl) ?_
  intro p e s m9 below meth c A hX hR hin
  subst hct
  refine J_abs (J0 := J p l e _ s m9 _ below meth c _ _ G A) ?_
  intro JX hji hjo
  have lp : ∀ (d i : Nat) (F1 : St) (h1 : hF), d + i = n → PS G h1 AD kn n en F1 → Fp h h1 AD → (∀ j : Nat, 7 ≤ j → j ≤ 11 → F1 j = F j) → (∀ j : Nat, j < i → F1 12 j = phw σ n k (j + 1) ∧ F1 13 j = σ 0 (j + 1)) → JX 0 0 5 [(0, .ref (AD 6)), (1, .long (lZ k)), (3, .long (lZ (rst (rho σ) k i))), (5, .int (iZ ((i : Nat) : Int)))] [] h1 := by
    intro d
    induction d with
    | zero =>
      intro i F1 h1 hd hP1 hF1 hst hx
      have h_P := hP1.1
      have h_b7 := hP1.b7
      have h_b8 := hP1.b8
      have h_b9 := hP1.b9
      have h_b10 := hP1.b10
      have h_b11 := hP1.b11
      have h_b12 := hP1.b12
      have h_b13 := hP1.b13
      refine hji ?_
      refine j_iload hX dX3_start_5 rfl ?_
      refine j_aload_n hX dX3_start_7 rfl ?_
      refine j_get hX fl_X3_34_5 dX3_start_8 h_P (by rfl) ?_
      refine j_icmp_ge hX 100 dX3_start_11 (by decide) (by omega) (by omega) (fun c11 => ?_) (fun c11 => absurd c11 (by omega))
      exact j_vret hX hR dX3_start_100 ⟨F1, hP1, hF1, hst, fun j hj => hx j (by omega)⟩
    | succ d ih =>
      intro i F1 h1 hd hP1 hF1 hst hx
      have h_P := hP1.1
      have h_b7 := hP1.b7
      have h_b8 := hP1.b8
      have h_b9 := hP1.b9
      have h_b10 := hP1.b10
      have h_b11 := hP1.b11
      have h_b12 := hP1.b12
      have h_b13 := hP1.b13
      obtain ⟨s1, s2, s3, s4⟩ := (hSt.keep (fun j j1 j2 => hst j (by omega) j2)) i (by omega)
      obtain ⟨p0, p1, -, -, -, -, -, p7, -⟩ := hO.2.2.1 (i + 1) (by omega) (by omega)
      have hrs := rst_b (ρ := rho σ) (k := k) hk.1 i (fun j j1 j2 => by obtain ⟨-, q1, -⟩ := hO.2.2.1 j j1 (by omega); unfold rho; split <;> omega)
      have hpw : phw σ n k (i + 1) = if σ 7 (i + 1) = -1 then rst (rho σ) k i % σ 1 (i + 1) else σ 7 (i + 1) := by unfold phw; rw [if_pos ⟨by omega, by omega⟩]; rfl
      have hrn : rst (rho σ) k (i + 1) = rst (rho σ) k i / (if σ 7 (i + 1) = -1 then σ 1 (i + 1) else 1) := rfl
      refine hji ?_
      refine j_iload hX dX3_start_5 rfl ?_
      refine j_aload_n hX dX3_start_7 rfl ?_
      refine j_get hX fl_X3_34_5 dX3_start_8 h_P (by rfl) ?_
      refine j_icmp_ge hX 100 dX3_start_11 (by decide) (by omega) (by omega) (fun c11 => absurd c11 (by omega)) (fun c11 => ?_)
      refine j_aload_n hX dX3_start_14 rfl ?_
      refine j_get hX fl_X3_25_5 dX3_start_15 h_P (by rfl) ?_
      refine j_iload hX dX3_start_18 rfl ?_
      refine j_laldN hX _ rfl dX3_start_20 h_b11 (by omega) (by decide) ?_
      refine j_ldc2 hX k_X3_38 (z := -1) (by decide) dX3_start_21 ?_
      refine j_lcmp_ne hX 66 dX3_start_24 dX3_start_25 (by decide) (by omega) (by omega) (fun c24 => ?_) (fun c24 => ?_)
      · refine j_aload_n hX dX3_start_66 rfl ?_
        refine j_get hX fl_X3_28_5 dX3_start_67 h_P (by rfl) ?_
        refine j_iload hX dX3_start_70 rfl ?_
        refine j_aload_n hX dX3_start_72 rfl ?_
        refine j_get hX fl_X3_25_5 dX3_start_73 h_P (by rfl) ?_
        refine j_iload hX dX3_start_76 rfl ?_
        refine j_laldN hX _ rfl dX3_start_78 h_b11 (by omega) (by decide) ?_
        refine j_lastN hX _ rfl dX3_start_79 h_b12 (by omega) (by decide) ?_
        have hP2 := hP1.arr hI9 (k := 12) (by omega) (by omega) (zup (F1 12) i (F1 11 i))
        have hF2 := hF1.up (k := 12) (by omega) (by omega) (gJ G 3 (zup (F1 12) i (F1 11 i)))
        have h_P := hP2.1
        have h_b9 : _ = some (gJ G 3 (F1 9)) := hP2.b9
        have h_b10 : _ = some (gJ G 3 (F1 10)) := hP2.b10
        have h_b11 : _ = some (gJ G 3 (F1 11)) := hP2.b11
        have h_b13 : _ = some (gJ G 3 (F1 13)) := hP2.b13
        refine j_aload_n hX dX3_start_80 rfl ?_
        refine j_get hX fl_X3_31_5 dX3_start_81 h_P (by rfl) ?_
        refine j_iload hX dX3_start_84 rfl ?_
        refine j_aload_n hX dX3_start_86 rfl ?_
        refine j_get hX fl_X3_19_5 dX3_start_87 h_P (by rfl) ?_
        refine j_iload hX dX3_start_90 rfl ?_
        refine j_laldN hX _ rfl dX3_start_92 h_b9 (by omega) (by decide) ?_
        refine j_lastN hX _ rfl dX3_start_93 h_b13 (by omega) (by decide) ?_
        have hP3 := hP2.arr hI9 (k := 13) (by omega) (by omega) (zup (F1 13) i (F1 9 i))
        have hF3 := hF2.up (k := 13) (by omega) (by omega) (gJ G 3 (zup (F1 13) i (F1 9 i)))
        refine j_iinc hX dX3_start_94 rfl (by decide) ?_
        refine j_goto hX 5 dX3_start_97 (by decide) ?_
        have hxx : ∀ j : Nat, j < i + 1 → zup (F1 12) i (F1 11 i) j = phw σ n k (j + 1) ∧ zup (F1 13) i (F1 9 i) j = σ 0 (j + 1) := fun j hj => by
          by_cases e : j = i
          · subst e; rw [zup_eq, zup_eq, hpw, s2]; exact ⟨by rw [if_neg (by omega), s4], rfl⟩
          · rw [zup_ne e, zup_ne e]; exact hx j (by omega)
        exact j_at (L' := [(0, .ref (AD 6)), (1, .long (lZ k)), (3, .long (lZ (rst (rho σ) k (i + 1)))), (5, .int (iZ (((i + 1) : Nat) : Int)))]) (hjo (ih (i + 1) _ _ (by omega) hP3 hF3 (fun j j1 j2 => by rw [sup_ne (by omega), sup_ne (by omega)]; exact hst j j1 j2) hxx)) ⟨rfl, rfl, by (show some (Value.long (lZ _)) = some (Value.long (lZ _))); rw [hrn]; rw [if_neg (by omega), Int.ediv_one], rfl, trivial⟩
      · refine j_lload_n hX dX3_start_28 rfl ?_
        refine j_aload_n hX dX3_start_29 rfl ?_
        refine j_get hX fl_X3_22_5 dX3_start_30 h_P (by rfl) ?_
        refine j_iload hX dX3_start_33 rfl ?_
        refine j_laldN hX _ rfl dX3_start_35 h_b10 (by omega) (by decide) ?_
        refine j_callSN hX cn_X3_99 q_254 (c_whole _ _ _ (by omega) (by omega)) dX3_start_36 rfl (by exact ⟨Nat.le_of_ble_eq_true rfl, Nat.le_of_ble_eq_true rfl⟩) (by exact ⟨Nat.le_of_ble_eq_true rfl, Nat.le_of_ble_eq_true rfl⟩) (by exact Nat.le_of_ble_eq_true rfl) (fun v36 h36 hp36 => ?_) rfl
        obtain ⟨rfl, rfl⟩ := hp36
        refine j_lstore hX dX3_start_39 (by decide) ?_
        refine j_aload_n hX dX3_start_41 rfl ?_
        refine j_get hX fl_X3_28_5 dX3_start_42 h_P (by rfl) ?_
        refine j_iload hX dX3_start_45 rfl ?_
        refine j_lload_n hX dX3_start_47 rfl ?_
        refine j_lload hX dX3_start_48 rfl ?_
        refine j_aload_n hX dX3_start_50 rfl ?_
        refine j_get hX fl_X3_22_5 dX3_start_51 h_P (by rfl) ?_
        refine j_iload hX dX3_start_54 rfl ?_
        refine j_laldN hX _ rfl dX3_start_56 h_b10 (by omega) (by decide) ?_
        refine j_lmul hX dX3_start_57 ?_
        refine j_lsub hX dX3_start_58 ?_
        refine j_lastN hX _ rfl dX3_start_59 h_b12 (by omega) (by decide) ?_
        have hP2 := hP1.arr hI9 (k := 12) (by omega) (by omega) (zup (F1 12) i (rst (rho σ) k i - rst (rho σ) k i / F1 10 i * F1 10 i))
        have hF2 := hF1.up (k := 12) (by omega) (by omega) (gJ G 3 (zup (F1 12) i (rst (rho σ) k i - rst (rho σ) k i / F1 10 i * F1 10 i)))
        have h_P := hP2.1
        have h_b9 : _ = some (gJ G 3 (F1 9)) := hP2.b9
        have h_b10 : _ = some (gJ G 3 (F1 10)) := hP2.b10
        have h_b11 : _ = some (gJ G 3 (F1 11)) := hP2.b11
        have h_b13 : _ = some (gJ G 3 (F1 13)) := hP2.b13
        refine j_lload hX dX3_start_60 rfl ?_
        refine j_lstore_n hX dX3_start_62 (by decide) ?_
        refine j_goto hX 80 dX3_start_63 (by decide) ?_
        refine j_aload_n hX dX3_start_80 rfl ?_
        refine j_get hX fl_X3_31_5 dX3_start_81 h_P (by rfl) ?_
        refine j_iload hX dX3_start_84 rfl ?_
        refine j_aload_n hX dX3_start_86 rfl ?_
        refine j_get hX fl_X3_19_5 dX3_start_87 h_P (by rfl) ?_
        refine j_iload hX dX3_start_90 rfl ?_
        refine j_laldN hX _ rfl dX3_start_92 h_b9 (by omega) (by decide) ?_
        refine j_lastN hX _ rfl dX3_start_93 h_b13 (by omega) (by decide) ?_
        have hP3 := hP2.arr hI9 (k := 13) (by omega) (by omega) (zup (F1 13) i (F1 9 i))
        have hF3 := hF2.up (k := 13) (by omega) (by omega) (gJ G 3 (zup (F1 13) i (F1 9 i)))
        refine j_iinc hX dX3_start_94 rfl (by decide) ?_
        refine j_goto hX 5 dX3_start_97 (by decide) ?_
        have hxx : ∀ j : Nat, j < i + 1 → zup (F1 12) i (rst (rho σ) k i - rst (rho σ) k i / F1 10 i * F1 10 i) j = phw σ n k (j + 1) ∧ zup (F1 13) i (F1 9 i) j = σ 0 (j + 1) := fun j hj => by
          by_cases e : j = i
          · subst e; rw [zup_eq, zup_eq, hpw, s2]; exact ⟨by rw [if_pos (by omega), s3, Int.emod_def, Int.mul_comm], rfl⟩
          · rw [zup_ne e, zup_ne e]; exact hx j (by omega)
        exact j_at (L' := [(0, .ref (AD 6)), (1, .long (lZ k)), (3, .long (lZ (rst (rho σ) k (i + 1)))), (5, .int (iZ (((i + 1) : Nat) : Int)))]) (hjo (ih (i + 1) _ _ (by omega) hP3 hF3 (fun j j1 j2 => by rw [sup_ne (by omega), sup_ne (by omega)]; exact hst j j1 j2) hxx)) ⟨rfl, rfl, by (show some (Value.long (lZ _)) = some (Value.long (lZ _))); rw [hrn]; rw [if_pos (by omega), s3], rfl, trivial⟩
  refine hji ?_
  refine j_lload_n hX dX3_start_0 rfl ?_
  refine j_lstore_n hX dX3_start_1 (by decide) ?_
  refine j_iconst hX dX3_start_2 ?_
  refine j_istore hX dX3_start_3 (by decide) ?_
  exact j_at (L' := [(0, .ref (AD 6)), (1, .long (lZ k)), (3, .long (lZ (rst (rho σ) k 0))), (5, .int (iZ ((0 : Nat) : Int)))]) (hjo (lp n 0 F h (by omega) hP (Fp.rf h AD) (fun _ _ _ => rfl) (fun j hj => by omega))) ⟨rfl, rfl, rfl, rfl, trivial⟩
set_option maxRecDepth 100000 in
set_option maxHeartbeats 4000000 in
theorem c_lcmP {l : Launch} {G : Gt} {B : Nat} {h : hF} {a b : Nat} (ha : 1 ≤ a ∧ a ≤ 1000000) (hb : 1 ≤ b ∧ b ≤ 15000) : Ct l G B yX3_leastCommonMultiple cX3_leastCommonMultiple 7 (some .long) 1 0 0 [.long (lZ (a : Int)), .long (lZ (b : Int))] h (fun v h' => v = .long (lZ ((Nat.lcm a b : Nat) : Int)) ∧ h = h') := by
  refine Ct.of (by decide) (Nat.le_of_ble_eq_true rfl) ?_
  intro p e s m9 below meth c A hX hR hin
  have hL1 : a ∣ Nat.lcm a b := Nat.dvd_lcm_left a b
  have hL2 : b ∣ Nat.lcm a b := Nat.dvd_lcm_right a b
  have hLb : Nat.lcm a b ≤ a * b := Nat.le_of_dvd (Nat.mul_pos (by omega) (by omega)) (Nat.lcm_dvd (Nat.dvd_mul_right a b) (Nat.dvd_mul_left b a))
  have hab9 : a * b ≤ 8000000 * 1 * 1000000 := by have := Nat.mul_le_mul ha.2 hb.2; omega
  refine J_abs (J0 := J p l e _ s m9 _ below meth c _ _ G A) ?_
  intro JX hji hjo
  have lp : ∀ (d i : Nat), d + i = b → a * (i + 1) ≤ Nat.lcm a b → i < b → JX 0 0 6 [(0, .long (lZ (a : Int))), (2, .long (lZ (b : Int))), (4, .long (lZ (((a * (i + 1) : Nat)) : Int))), (6, .int (iZ ((i : Nat) : Int)))] [] h := by
    intro d
    induction d with
    | zero => intro i hd hi hib; exact absurd hib (by omega)
    | succ d ih =>
      intro i hd hi hib
      have hm1 : 1 ≤ a * (i + 1) := Nat.mul_pos (by omega) (by omega)
      have hmod : (((a * (i + 1) : Nat)) : Int) % (b : Int) = (((a * (i + 1)) % b : Nat) : Int) := rfl
      have hai : a * (i + 1 + 1) = a * (i + 1) + a := by rw [Nat.mul_add a (i + 1) 1, Nat.mul_one]
      generalize hM9 : a * (i + 1) = M9 at hi hm1 hmod hai ⊢
      have haM : a ∣ M9 := by rw [← hM9]; exact Nat.dvd_mul_right a (i + 1)
      have hmb := Nat.mod_lt M9 (show 0 < b by omega)
      refine hji ?_
      refine j_iload hX dX3_leastCommonMultiple_6 rfl ?_
      refine j_i2l hX dX3_leastCommonMultiple_8 (by omega) ?_
      refine j_ldc2 hX k_X3_94 (z := 20000) (by decide) dX3_leastCommonMultiple_9 ?_
      refine j_lcmp_ge hX 41 dX3_leastCommonMultiple_12 dX3_leastCommonMultiple_13 (by decide) (by omega) (by omega) (fun c12 => absurd c12 (by omega)) (fun c12 => ?_)
      refine j_lload hX dX3_leastCommonMultiple_16 rfl ?_
      refine j_lload_n hX dX3_leastCommonMultiple_18 rfl ?_
      refine j_lconst1 hX dX3_leastCommonMultiple_19 ?_
      refine j_lmax hX mx_X3_96.1 mx_X3_96.2.1 mx_X3_96.2.2.1 mx_X3_96.2.2.2 dX3_leastCommonMultiple_20 (by omega) (by omega) (by exact ⟨Nat.le_of_ble_eq_true rfl, Nat.le_of_ble_eq_true rfl⟩) (by exact ⟨Nat.le_of_ble_eq_true rfl, Nat.le_of_ble_eq_true rfl⟩) ?_
      rw [show (if (1 : Int) < (b : Int) then (b : Int) else 1) = (b : Int) by split <;> omega]
      refine j_lrem hX dX3_leastCommonMultiple_23 (by omega) (by omega) ?_
      rw [hmod]
      refine j_lconst0 hX dX3_leastCommonMultiple_24 ?_
      refine j_lcmp_eq hX 41 dX3_leastCommonMultiple_25 dX3_leastCommonMultiple_26 (by decide) (by omega) (by omega) (fun c25 => ?_) (fun c25 => ?_)
      · refine j_lload hX dX3_leastCommonMultiple_41 rfl ?_
        exact j_lret hX hR dX3_leastCommonMultiple_43 ⟨by have hd9 : b ∣ M9 := Nat.dvd_of_mod_eq_zero (by omega); have hd8 := Nat.le_of_dvd (by omega) (Nat.lcm_dvd haM hd9); rw [show Nat.lcm a b = M9 by omega], rfl⟩
      · refine j_lload hX dX3_leastCommonMultiple_29 rfl ?_
        refine j_lload_n hX dX3_leastCommonMultiple_31 rfl ?_
        refine j_ladd hX dX3_leastCommonMultiple_32 ?_
        refine j_lstore hX dX3_leastCommonMultiple_33 (by decide) ?_
        refine j_iinc hX dX3_leastCommonMultiple_35 rfl (by decide) ?_
        refine j_goto hX 6 dX3_leastCommonMultiple_38 (by decide) ?_
        have hlt : M9 < Nat.lcm a b := by
          rcases Nat.lt_or_ge M9 (Nat.lcm a b) with q | q
          · exact q
          · have e9 : M9 = Nat.lcm a b := by omega
            have e8 : M9 % b = 0 := by rw [e9]; exact Nat.mod_eq_zero_of_dvd hL2
            omega
        have hle : a * (i + 1 + 1) ≤ Nat.lcm a b := by
          obtain ⟨q, hq⟩ := hL1
          rw [← hM9, hq] at hlt
          rw [hq]
          exact Nat.mul_le_mul_left a (Nat.lt_of_mul_lt_mul_left hlt)
        have hib2 : i + 1 < b := by
          have := Nat.le_of_mul_le_mul_left (Nat.le_trans hle hLb) (by omega)
          omega
        exact j_at (L' := [(0, .long (lZ (a : Int))), (2, .long (lZ (b : Int))), (4, .long (lZ (((a * ((i + 1) + 1) : Nat)) : Int))), (6, .int (iZ (((i + 1) : Nat) : Int)))]) (hjo (ih (i + 1) (by omega) hle hib2)) ⟨rfl, rfl, by (show some (Value.long (lZ _)) = some (Value.long (lZ _))); rw [hai]; rfl, rfl, trivial⟩
  refine hji ?_
  refine j_lload_n hX dX3_leastCommonMultiple_0 rfl ?_
  refine j_lstore hX dX3_leastCommonMultiple_1 (by decide) ?_
  refine j_iconst hX dX3_leastCommonMultiple_3 ?_
  refine j_istore hX dX3_leastCommonMultiple_4 (by decide) ?_
  exact j_at (L' := [(0, .long (lZ (a : Int))), (2, .long (lZ (b : Int))), (4, .long (lZ (((a * (0 + 1) : Nat)) : Int))), (6, .int (iZ ((0 : Nat) : Int)))]) (hjo (lp b 0 (by omega) (by rw [Nat.zero_add, Nat.mul_one]; exact Nat.le_of_dvd (Nat.lcm_pos (by omega) (by omega)) hL1) (by omega))) ⟨rfl, rfl, by (show some (Value.long (lZ _)) = some (Value.long (lZ _))); rw [Nat.zero_add, Nat.mul_one], rfl, trivial⟩
