/-! THE REFERENCE: plain -/
def dg (ρ : Nat → Int) (n : Nat) (k : Int) : Nat → Int := fun j => if 1 ≤ j ∧ j ≤ n then rst ρ k (j - 1) % ρ j else 0
def mS (σ : St) (n : Nat) (en : Int) (t : Nat) (k : Int) (y : Int) : Prop := ∃ k2 : Int, (0 ≤ k2 ∧ k2 < k) ∧ (∀ j : Nat, 1 ≤ j → j ≤ n → σ 7 j = -1 ∨ σ 7 j = dg (σ 1) n k2 j) ∧ y = LST σ n en (dg (σ 1) n k2) t
theorem dg_b {σ : St} {n m : Nat} (hO : OK n m σ) (k : Int) {j : Nat} (h1 : 1 ≤ j) (h2 : j ≤ n) : 0 ≤ dg (σ 1) n k j ∧ dg (σ 1) n k j < σ 1 j := by
  obtain ⟨-, o1, -⟩ := hO.2.2.1 j h1 h2
  unfold dg
  rw [if_pos ⟨h1, h2⟩]
  exact ⟨Int.emod_nonneg _ (by omega), Int.emod_lt_of_pos _ (by omega)⟩
theorem mS_all {σ : St} {n m : Nat} (hO : OK n m σ) {en : Int} {t : Nat} {y : Int} : mS σ n en t (prd (σ 1) n) y ↔ phS σ n en t y := by
  constructor
  · rintro ⟨k, hk, h1, h2⟩
    refine ⟨dg (σ 1) n k, fun j hj => by unfold dg; rw [if_neg hj], fun j j1 j2 => ⟨dg_b hO k j1 j2, h1 j j1 j2⟩, h2⟩
  · rintro ⟨φ, h0, h1, h2⟩
    obtain ⟨k, hk, hd⟩ := dig_all n (σ 1) φ (fun t t1 t2 => (h1 t t1 t2).1)
    have e : dg (σ 1) n k = φ := by
      funext j
      by_cases hj : 1 ≤ j ∧ j ≤ n
      · unfold dg; rw [if_pos hj]; exact hd j hj.1 hj.2
      · unfold dg; rw [if_neg hj, h0 j hj]
    refine ⟨k, hk, fun j j1 j2 => ?_, ?_⟩
    · rw [e]; exact (h1 j j1 j2).2
    · rw [e]; exact h2
theorem LST_b {σ : St} {n m : Nat} (hO : OK n m σ) {en : Int} {φ : Nat → Int} (hφ : ∀ t : Nat, 1 ≤ t → t ≤ n → 0 ≤ φ t ∧ φ t < σ 1 t) (t : Nat) : 0 ≤ LST σ n en φ t ∧ LST σ n en φ t ≤ 50000 := by
  have h := run_M0 (σ := σ) (n := n) (en := en) (φ := φ) (fun o a1 a2 => (hφ o a1 a2).1) (fun k2 o a1 a2 => by have q1 := RI_run hO (M := fun _ => 0) (en := en) hφ k2 o a1 a2; have q2 := hφ o a1 a2; omega) hz t
  exact ⟨h.1, h.2⟩
theorem prd_b3 {σ : St} {n m : Nat} (hO : OK n m σ) : ∀ t : Nat, t ≤ n → t ≤ 3 → 1 ≤ prd (σ 1) t ∧ prd (σ 1) t ≤ 8000000000000 := by
  intro t h1 h2
  have o := fun j (j1 : 1 ≤ j) (j2 : j ≤ n) => (hO.2.2.1 j j1 j2).2.1
  have hp := prd_pos t (fun j j1 j2 => (o j j1 (by omega)).1)
  refine ⟨hp, ?_⟩
  match t, h1, h2 with
  | 0, _, _ => show (1 : Int) ≤ 8000000000000; omega
  | 1, h1, _ => show 1 * σ 1 1 ≤ _; have := o 1 (by omega) h1; omega
  | 2, h1, _ =>
    have a := o 1 (by omega) (by omega)
    have b := o 2 (by omega) h1
    have := mulb (a := σ 1 1) (A := 20000) (b := σ 1 2) (B := 20000) (by omega) (by omega)
    show 1 * σ 1 1 * σ 1 2 ≤ _
    rw [Int.one_mul]; omega
  | 3, h1, _ =>
    have a := o 1 (by omega) (by omega)
    have b := o 2 (by omega) (by omega)
    have c := o 3 (by omega) h1
    have q1 := mulb (a := σ 1 1) (A := 20000) (b := σ 1 2) (B := 20000) (by omega) (by omega)
    have q2 := mulb q1 (show 0 ≤ σ 1 3 ∧ σ 1 3 ≤ 20000 by omega)
    show 1 * σ 1 1 * σ 1 2 * σ 1 3 ≤ _
    rw [Int.one_mul]; omega
theorem prd_rst {ρ : Nat → Int} {k : Int} (hk : 0 ≤ k) {t : Nat} (h : ∀ j : Nat, 1 ≤ j → j ≤ t → 1 ≤ ρ j) : 0 ≤ rst ρ k t ∧ rst ρ k t ≤ k := rst_b hk t h
def plU (σ : St) (t : Nat) : Prop := ∀ j : Nat, 1 ≤ j → j < t → σ 3 j = 0 ∧ σ 4 j = 1 ∧ σ 8 j = 0 ∧ σ 6 j = 0
def tlU (σ : St) (t : Nat) : Prop := ∃ j : Nat, 1 ≤ j ∧ j < t ∧ σ 7 j ≠ -1
set_option maxRecDepth 100000 in
set_option maxHeartbeats 4000000 in
theorem c6_plain {l : Launch} {G : Gt} {B : Nat} {h : hF} {b : Nat} {A9 : Nat → Nat} {σ : St} {n m : Nat} {sp tu th : Int} (hM : Mo G h b A9 σ n m sp tu th) (hO : OK n m σ) {z : Int} (hz : -2147483648 ≤ z ∧ z < 2147483648) : Ct l G B yX6_plain cX6_plain 18 (some .boolean) 4 0 0 [.ref b, .int (iZ z)] h (fun v h' => (∃ y : Int, v = .int (iZ y) ∧ flg y (plainF σ n m z)) ∧ ∃ sp2 tu2 : Int, Mo G h' b A9 σ n m sp2 tu2 0 ∧ Fm h h' b A9) := by
  refine Ct.of (by decide) (Nat.le_of_ble_eq_true rfl) ?_
  intro p e s m9 below meth c A hX hR hin
  have hn16 := hO.1
  have hm8 := hO.2.1
  have h_M := hM.1
  refine J_abs (J0 := J p l e _ s m9 _ below meth c _ _ G A) ?_
  intro JX hji hjo
  have lm : ∀ (t : Nat) (sp1 tu1 to : Int), (1 ≤ t ∧ t ≤ n) → z = (t : Int) → m = 0 → RUN σ n → (ansF σ n m t).1 ≠ -1 → flg to (tlU σ (n + 1)) → ∀ (d : Nat) (k mo : Int) (τ1 : St) (h1 : hF), (prd (σ 1) n) - k ≤ (d : Int) → 0 ≤ k → k ≤ (prd (σ 1) n) → MoP G h1 b A9 σ n m sp1 tu1 0 τ1 → Fm h h1 b A9 → isMax (mS σ n (endT σ n) t k) mo → mo ≤ 50000 → JX 0 0 194 [(0, .ref b), (1, .int (iZ (t : Int))), (2, .long (lZ (prd (σ 1) n))), (4, .long (lZ (((cyc σ n) : Nat) : Int))), (6, .int (iZ to)), (7, .long (lZ (ansF σ n m t).1)), (9, .long (lZ mo)), (11, .long (lZ k))] [] h1 := by
    intro t sp1 tu1 to ht hzt hm0 hR9 hans hto
    have hn3 := hR9.1
    have hto1 : to = 0 ∨ to = 1 := by rcases hto with ⟨z9, _⟩ | ⟨z9, _⟩ <;> omega
    have hP6 := hR9.2.2.1
    have hcy := cyc_b hO n (Nat.le_refl n)
    have hP1 := prd_b3 hO n (Nat.le_refl n) hn3
    have hab := ans_b hO ht
    have hztn : z.toNat = t := by rw [hzt]; rfl
    have hper : ∀ j : Nat, 1 ≤ j → j ≤ n → 1 ≤ σ 1 j ∧ σ 1 j ≤ 20000 := fun j j1 j2 => (hO.2.2.1 j j1 j2).2.1
    have henT : 0 ≤ endT σ n ∧ endT σ n ≤ 180 := by unfold endT; omega
    intro d
    induction d with
    | zero =>
      intro k mo τ1 h1 hd hk0 hk1 hM1 hF1 hmx hmo
      have hkP : k = (prd (σ 1) n) := by omega
      have hpl := plm_eq (hmx.congr (fun y => by rw [hkP]; exact mS_all hO))
      have hmo0 := hmx.2.1
      refine hji ?_
      refine j_lload hX dX6_plain_194 rfl ?_
      refine j_lload_n hX dX6_plain_196 rfl ?_
      refine j_lcmp_ge hX 346 dX6_plain_197 dX6_plain_198 (by decide) (by omega) (by omega) (fun c197 => ?_) (fun c197 => absurd c197 (by omega))
      refine j_iload hX dX6_plain_346 rfl ?_
      refine j_if_eq hX 367 dX6_plain_348 (by decide) (by omega) (fun c348 => ?_) (fun c348 => ?_)
      · refine j_lload hX dX6_plain_367 rfl ?_
        refine j_lload hX dX6_plain_369 rfl ?_
        refine j_lcmp_ne hX 379 dX6_plain_371 dX6_plain_372 (by decide) (by omega) (by omega) (fun c371 => ?_) (fun c371 => ?_)
        · refine j_iconst hX dX6_plain_379 ?_
          exact j_zret hX hR dX6_plain_380 (by omega) ⟨⟨0, rfl, Or.inr ⟨rfl, fun q => by have q2 := q.2.2.2.2.2 (fun j j1 j2 => by by_cases e : σ 7 j = -1; exact e; exact absurd (show tlU σ (n + 1) from ⟨j, j1, by omega, e⟩) (by rcases hto with ⟨q, _⟩ | ⟨_, q⟩; omega; exact q)); rw [hztn, ← hpl] at q2; omega⟩⟩, sp1, tu1, hM1.1, hF1⟩
        · refine j_iconst hX dX6_plain_375 ?_
          refine j_goto hX 380 dX6_plain_376 (by decide) ?_
          exact j_zret hX hR dX6_plain_380 (by omega) ⟨⟨1, rfl, Or.inl ⟨rfl, ⟨⟨by omega, by omega⟩, hm0, hR9, by rw [hztn]; exact hans, fun q => absurd (show tlU σ (n + 1) from (by obtain ⟨j, j1, j2, j3⟩ := q; exact ⟨j, j1, by omega, j3⟩)) (by rcases hto with ⟨q, _⟩ | ⟨_, q⟩; omega; exact q), fun _ => by rw [hztn, ← hpl]; omega⟩⟩⟩, sp1, tu1, hM1.1, hF1⟩
      · refine j_lload hX dX6_plain_351 rfl ?_
        refine j_lload hX dX6_plain_353 rfl ?_
        refine j_lcmp_gt hX 363 dX6_plain_355 dX6_plain_356 (by decide) (by omega) (by omega) (fun c355 => ?_) (fun c355 => ?_)
        · refine j_iconst hX dX6_plain_363 ?_
          refine j_goto hX 380 dX6_plain_364 (by decide) ?_
          exact j_zret hX hR dX6_plain_380 (by omega) ⟨⟨0, rfl, Or.inr ⟨rfl, fun q => by have q2 := q.2.2.2.2.1 (by obtain ⟨j, j1, j2, j3⟩ : tlU σ (n + 1) := (by rcases hto with ⟨_, q⟩ | ⟨q, _⟩; exact q; omega); exact ⟨j, j1, by omega, j3⟩); rw [hztn, ← hpl] at q2; omega⟩⟩, sp1, tu1, hM1.1, hF1⟩
        · refine j_iconst hX dX6_plain_359 ?_
          refine j_goto hX 380 dX6_plain_360 (by decide) ?_
          exact j_zret hX hR dX6_plain_380 (by omega) ⟨⟨1, rfl, Or.inl ⟨rfl, ⟨⟨by omega, by omega⟩, hm0, hR9, by rw [hztn]; exact hans, fun _ => by rw [hztn, ← hpl]; omega, fun q => by obtain ⟨j, j1, j2, j3⟩ : tlU σ (n + 1) := (by rcases hto with ⟨_, q⟩ | ⟨q, _⟩; exact q; omega); exact absurd (q j j1 (by omega)) j3⟩⟩⟩, sp1, tu1, hM1.1, hF1⟩
    | succ d ih =>
      intro k mo τ1 h1 hd hk0 hk1 hM1 hF1 hmx hmo
      have hmo0 := hmx.2.1
      have lq : k < (prd (σ 1) n) → ∀ (f t9 : Nat) (as9 : Int) (τ2 : St) (h2 : hF), f + t9 = n + 1 → 1 ≤ t9 → MoP G h2 b A9 σ n m sp1 tu1 0 τ2 → Fm h h2 b A9 → (∀ j : Nat, 1 ≤ j → j < t9 → τ2 17 j = dg (σ 1) n k j) → flg as9 (∀ j : Nat, 1 ≤ j → j < t9 → σ 7 j = -1 ∨ σ 7 j = dg (σ 1) n k j) → JX 0 0 211 [(0, .ref b), (1, .int (iZ (t : Int))), (2, .long (lZ (prd (σ 1) n))), (4, .long (lZ (((cyc σ n) : Nat) : Int))), (6, .int (iZ to)), (7, .long (lZ (ansF σ n m t).1)), (9, .long (lZ mo)), (11, .long (lZ k)), (13, .long (lZ (rst (σ 1) k (t9 - 1)))), (15, .int (iZ as9)), (16, .int (iZ ((t9 : Nat) : Int)))] [] h2 := by
        intro hkl f
        induction f with
        | zero =>
          intro t9 as9 τ2 h2 hf ht9 hM2 hF2 hdg has
          have has1 : as9 = 0 ∨ as9 = 1 := by rcases has with ⟨z9, _⟩ | ⟨z9, _⟩ <;> omega
          have h_M := hM2.1.1
          refine hji ?_
          refine j_iload hX dX6_plain_211 rfl ?_
          refine j_aload_n hX dX6_plain_213 rfl ?_
          refine j_get hX fl_X6_67_8 dX6_plain_214 h_M (by rfl) ?_
          refine j_icmp_gt hX 299 dX6_plain_217 (by decide) (by omega) (by omega) (fun c217 => ?_) (fun c217 => absurd c217 (by omega))
          refine j_iload hX dX6_plain_299 rfl ?_
          refine j_if_ne hX 307 dX6_plain_301 (by decide) (by omega) (fun c301 => ?_) (fun c301 => ?_)
          · have has2 : ∀ j : Nat, 1 ≤ j → j ≤ n → σ 7 j = -1 ∨ σ 7 j = dg (σ 1) n k j := by rcases has with ⟨_, q⟩ | ⟨q, _⟩; exact fun j j1 j2 => q j j1 (by omega); omega
            have hLb := LST_b hO (en := endT σ n) (φ := dg (σ 1) n k) (fun j j1 j2 => dg_b hO k j1 j2) t
            refine j_aload_n hX dX6_plain_307 rfl ?_
            refine j_iload_n hX dX6_plain_308 rfl ?_
            refine j_ldc2 hX k_X6_153 (z := 3) (by decide) dX6_plain_309 ?_
            refine j_lload hX dX6_plain_312 rfl ?_
            refine j_lmul hX dX6_plain_314 ?_
            refine j_callV hX cv_X6_155 (c6_longest (φ := dg (σ 1) n k) hM2 ht hO hR9 henT (fun j j1 j2 => dg_b hO k j1 j2) (fun j j1 j2 => hdg j j1 (by omega))) dX6_plain_315 h_M rfl rfl (by exact ⟨Nat.le_of_ble_eq_true rfl, Nat.le_of_ble_eq_true rfl⟩) (by exact ⟨Nat.le_of_ble_eq_true rfl, Nat.le_of_ble_eq_true rfl⟩) (by exact Nat.le_of_ble_eq_true rfl) (fun v315 h315 hp315 => ?_) rfl
            obtain ⟨rfl, τ3, hM3, hF3, h17⟩ := hp315
            refine j_lstore hX dX6_plain_318 (by decide) ?_
            refine j_lload hX dX6_plain_320 rfl ?_
            refine j_lload hX dX6_plain_322 rfl ?_
            refine j_lcmp_le hX 333 dX6_plain_324 dX6_plain_325 (by decide) (by omega) (by omega) (fun c324 => ?_) (fun c324 => ?_)
            · refine j_lload hX dX6_plain_333 rfl ?_
              refine j_lstore hX dX6_plain_335 (by decide) ?_
              refine j_lload hX dX6_plain_337 rfl ?_
              refine j_lconst1 hX dX6_plain_339 ?_
              refine j_ladd hX dX6_plain_340 ?_
              refine j_lstore hX dX6_plain_341 (by decide) ?_
              refine j_goto hX 194 dX6_plain_343 (by decide) ?_
              exact j_at (L' := [(0, .ref b), (1, .int (iZ (t : Int))), (2, .long (lZ (prd (σ 1) n))), (4, .long (lZ (((cyc σ n) : Nat) : Int))), (6, .int (iZ to)), (7, .long (lZ (ansF σ n m t).1)), (9, .long (lZ mo)), (11, .long (lZ (k + 1)))]) (hjo (ih (k + 1) _ _ _ (by omega) (by omega) (by omega) hM3 (hF2.tr hF3) (hmx.un (isMax.one hLb.1) (Or.inl rfl) (Int.le_refl _) (show LST σ n (endT σ n) (dg (σ 1) n k) t ≤ mo by omega) (fun y => ⟨fun ⟨k2, q1, q2, q3⟩ => by by_cases e : k2 = k; subst e; exact Or.inr q3; exact Or.inl ⟨k2, ⟨q1.1, by omega⟩, q2, q3⟩, fun q => by rcases q with ⟨k2, q1, q2⟩ | q; exact ⟨k2, ⟨q1.1, by omega⟩, q2⟩; exact ⟨k, ⟨hk0, by omega⟩, has2, q⟩⟩)) hmo)) ⟨rfl, rfl, rfl, rfl, rfl, rfl, rfl, rfl, trivial⟩
            · refine j_lload hX dX6_plain_328 rfl ?_
              refine j_goto hX 335 dX6_plain_330 (by decide) ?_
              refine j_lstore hX dX6_plain_335 (by decide) ?_
              refine j_lload hX dX6_plain_337 rfl ?_
              refine j_lconst1 hX dX6_plain_339 ?_
              refine j_ladd hX dX6_plain_340 ?_
              refine j_lstore hX dX6_plain_341 (by decide) ?_
              refine j_goto hX 194 dX6_plain_343 (by decide) ?_
              exact j_at (L' := [(0, .ref b), (1, .int (iZ (t : Int))), (2, .long (lZ (prd (σ 1) n))), (4, .long (lZ (((cyc σ n) : Nat) : Int))), (6, .int (iZ to)), (7, .long (lZ (ansF σ n m t).1)), (9, .long (lZ _)), (11, .long (lZ (k + 1)))]) (hjo (ih (k + 1) _ _ _ (by omega) (by omega) (by omega) hM3 (hF2.tr hF3) (hmx.un (isMax.one hLb.1) (Or.inr rfl) (show mo ≤ LST σ n (endT σ n) (dg (σ 1) n k) t by omega) (Int.le_refl _) (fun y => ⟨fun ⟨k2, q1, q2, q3⟩ => by by_cases e : k2 = k; subst e; exact Or.inr q3; exact Or.inl ⟨k2, ⟨q1.1, by omega⟩, q2, q3⟩, fun q => by rcases q with ⟨k2, q1, q2⟩ | q; exact ⟨k2, ⟨q1.1, by omega⟩, q2⟩; exact ⟨k, ⟨hk0, by omega⟩, has2, q⟩⟩)) hLb.2)) ⟨rfl, rfl, rfl, rfl, rfl, rfl, rfl, rfl, trivial⟩
          · refine j_goto hX 337 dX6_plain_304 (by decide) ?_
            refine j_lload hX dX6_plain_337 rfl ?_
            refine j_lconst1 hX dX6_plain_339 ?_
            refine j_ladd hX dX6_plain_340 ?_
            refine j_lstore hX dX6_plain_341 (by decide) ?_
            refine j_goto hX 194 dX6_plain_343 (by decide) ?_
            have has2 : ¬ ∀ j : Nat, 1 ≤ j → j ≤ n → σ 7 j = -1 ∨ σ 7 j = dg (σ 1) n k j := by rcases has with ⟨q, _⟩ | ⟨_, q⟩; omega; exact fun z9 => q (fun j j1 j2 => z9 j j1 (by omega))
            exact j_at (L' := [(0, .ref b), (1, .int (iZ (t : Int))), (2, .long (lZ (prd (σ 1) n))), (4, .long (lZ (((cyc σ n) : Nat) : Int))), (6, .int (iZ to)), (7, .long (lZ (ansF σ n m t).1)), (9, .long (lZ mo)), (11, .long (lZ (k + 1)))]) (hjo (ih (k + 1) _ _ _ (by omega) (by omega) (by omega) hM2 hF2 (hmx.congr (fun y => ⟨fun ⟨k2, q1, q2, q3⟩ => ⟨k2, ⟨q1.1, by omega⟩, q2, q3⟩, fun ⟨k2, q1, q2, q3⟩ => by by_cases e : k2 = k; subst e; exact absurd q2 has2; exact ⟨k2, ⟨q1.1, by omega⟩, q2, q3⟩⟩)) hmo)) ⟨rfl, rfl, rfl, rfl, rfl, rfl, rfl, rfl, trivial⟩
        | succ f ih2 =>
          intro t9 as9 τ2 h2 hf ht9 hM2 hF2 hdg has
          have has1 : as9 = 0 ∨ as9 = 1 := by rcases has with ⟨z9, _⟩ | ⟨z9, _⟩ <;> omega
          obtain ⟨-, o1, -, -, -, -, -, o7, -⟩ := hO.2.2.1 t9 ht9 (by omega)
          have hrs := rst_b (ρ := σ 1) (k := k) hk0 (t9 - 1) (fun j j1 j2 => (hper j j1 (by omega)).1)
          have hdt : rst (σ 1) k (t9 - 1) % σ 1 t9 = dg (σ 1) n k t9 := by unfold dg; rw [if_pos ⟨ht9, by omega⟩]
          have hdb := dg_b hO k ht9 (show t9 ≤ n by omega)
          have hrn : rst (σ 1) k (t9 - 1) / σ 1 t9 = rst (σ 1) k (t9 + 1 - 1) := by obtain ⟨o9, rfl⟩ : ∃ o9, t9 = o9 + 1 := ⟨t9 - 1, by omega⟩; rfl
          have h_M := hM2.1.1
          have h_a1 := hM2.1.a1
          have h_a7 := hM2.1.a7
          have h_a17 := hM2.a17
          refine hji ?_
          refine j_iload hX dX6_plain_211 rfl ?_
          refine j_aload_n hX dX6_plain_213 rfl ?_
          refine j_get hX fl_X6_67_8 dX6_plain_214 h_M (by rfl) ?_
          refine j_icmp_gt hX 299 dX6_plain_217 (by decide) (by omega) (by omega) (fun c217 => absurd c217 (by omega)) (fun c217 => ?_)
          refine j_aload_n hX dX6_plain_220 rfl ?_
          refine j_get hX fl_X6_50_8 dX6_plain_221 h_M (by rfl) ?_
          refine j_iload hX dX6_plain_224 rfl ?_
          refine j_lload hX dX6_plain_226 rfl ?_
          refine j_aload_n hX dX6_plain_228 rfl ?_
          refine j_get hX fl_X6_13_8 dX6_plain_229 h_M (by rfl) ?_
          refine j_iload hX dX6_plain_232 rfl ?_
          refine j_laldN hX _ rfl dX6_plain_234 h_a1 (by omega) (by decide) ?_
          refine j_lrem hX dX6_plain_235 (by omega) (by omega) ?_
          rw [hdt]
          refine j_lastN hX _ rfl dX6_plain_236 h_a17 (by omega) (by decide) ?_
          have hM3 := hM2.arx (k := 17) rfl (zup (τ2 17) t9 (dg (σ 1) n k t9))
          have hF3 := hF2.a (k := 17) rfl (gJ G 4 (zup (τ2 17) t9 (dg (σ 1) n k t9)))
          have h_M := hM3.1.1
          have h_a1 := hM3.1.a1
          have h_a7 := hM3.1.a7
          have h_a17 : _ = some (gJ G 4 (zup (τ2 17) t9 (dg (σ 1) n k t9))) := hM3.a17
          have hdg3 : ∀ j : Nat, 1 ≤ j → j < t9 + 1 → (sup τ2 17 (zup (τ2 17) t9 (dg (σ 1) n k t9))) 17 j = dg (σ 1) n k j := fun j j1 j2 => by
            show zup (τ2 17) t9 (dg (σ 1) n k t9) j = _
            by_cases e : j = t9
            · subst e; rw [zup_eq]
            · rw [zup_ne e]; exact hdg j j1 (by omega)
          refine j_lload hX dX6_plain_237 rfl ?_
          refine j_aload_n hX dX6_plain_239 rfl ?_
          refine j_get hX fl_X6_13_8 dX6_plain_240 h_M (by rfl) ?_
          refine j_iload hX dX6_plain_243 rfl ?_
          refine j_laldN hX _ rfl dX6_plain_245 h_a1 (by omega) (by decide) ?_
          refine j_ldiv hX dX6_plain_246 (by omega) (by omega) ?_
          rw [hrn]
          refine j_lstore hX dX6_plain_247 (by decide) ?_
          refine j_iload hX dX6_plain_249 rfl ?_
          refine j_if_eq hX 290 dX6_plain_251 (by decide) (by omega) (fun c251 => ?_) (fun c251 => ?_)
          · refine j_iconst hX dX6_plain_290 ?_
            refine j_istore hX dX6_plain_291 (by decide) ?_
            refine j_iinc hX dX6_plain_293 rfl (by decide) ?_
            refine j_goto hX 211 dX6_plain_296 (by decide) ?_
            exact j_at (L' := [(0, .ref b), (1, .int (iZ (t : Int))), (2, .long (lZ (prd (σ 1) n))), (4, .long (lZ (((cyc σ n) : Nat) : Int))), (6, .int (iZ to)), (7, .long (lZ (ansF σ n m t).1)), (9, .long (lZ mo)), (11, .long (lZ k)), (13, .long (lZ (rst (σ 1) k (t9 + 1 - 1)))), (15, .int (iZ 0)), (16, .int (iZ (((t9 + 1) : Nat) : Int)))]) (hjo (ih2 (t9 + 1) _ _ _ (by omega) (by omega) hM3 hF3 hdg3 (Or.inr ⟨rfl, fun q9 => by rcases has with ⟨q, _⟩ | ⟨_, q⟩; omega; exact q (fun j j1 j2 => q9 j j1 (by omega))⟩))) ⟨rfl, rfl, rfl, rfl, rfl, rfl, rfl, rfl, rfl, rfl, rfl, trivial⟩
          · refine j_aload_n hX dX6_plain_254 rfl ?_
            refine j_get hX fl_X6_32_8 dX6_plain_255 h_M (by rfl) ?_
            refine j_iload hX dX6_plain_258 rfl ?_
            refine j_laldN hX _ rfl dX6_plain_260 h_a7 (by omega) (by decide) ?_
            refine j_ldc2 hX k_X6_80 (z := -1) (by decide) dX6_plain_261 ?_
            refine j_lcmp_eq hX 286 dX6_plain_264 dX6_plain_265 (by decide) (by omega) (by omega) (fun c264 => ?_) (fun c264 => ?_)
            · refine j_iconst hX dX6_plain_286 ?_
              refine j_goto hX 291 dX6_plain_287 (by decide) ?_
              refine j_istore hX dX6_plain_291 (by decide) ?_
              refine j_iinc hX dX6_plain_293 rfl (by decide) ?_
              refine j_goto hX 211 dX6_plain_296 (by decide) ?_
              exact j_at (L' := [(0, .ref b), (1, .int (iZ (t : Int))), (2, .long (lZ (prd (σ 1) n))), (4, .long (lZ (((cyc σ n) : Nat) : Int))), (6, .int (iZ to)), (7, .long (lZ (ansF σ n m t).1)), (9, .long (lZ mo)), (11, .long (lZ k)), (13, .long (lZ (rst (σ 1) k (t9 + 1 - 1)))), (15, .int (iZ 1)), (16, .int (iZ (((t9 + 1) : Nat) : Int)))]) (hjo (ih2 (t9 + 1) _ _ _ (by omega) (by omega) hM3 hF3 hdg3 (Or.inl ⟨rfl, fun j j1 j2 => by by_cases e : j = t9; subst e; exact Or.inl (by omega); (rcases has with ⟨_, q⟩ | ⟨q, _⟩; exact q j j1 (by omega); omega)⟩))) ⟨rfl, rfl, rfl, rfl, rfl, rfl, rfl, rfl, rfl, rfl, rfl, trivial⟩
            · refine j_aload_n hX dX6_plain_268 rfl ?_
              refine j_get hX fl_X6_32_8 dX6_plain_269 h_M (by rfl) ?_
              refine j_iload hX dX6_plain_272 rfl ?_
              refine j_laldN hX _ rfl dX6_plain_274 h_a7 (by omega) (by decide) ?_
              refine j_aload_n hX dX6_plain_275 rfl ?_
              refine j_get hX fl_X6_50_8 dX6_plain_276 h_M (by rfl) ?_
              refine j_iload hX dX6_plain_279 rfl ?_
              refine j_laldN hX _ rfl dX6_plain_281 h_a17 (by omega) (by decide) ?_
              rw [zup_eq]
              refine j_lcmp_ne hX 290 dX6_plain_282 dX6_plain_283 (by decide) (by omega) (by omega) (fun c282 => ?_) (fun c282 => ?_)
              · refine j_iconst hX dX6_plain_290 ?_
                refine j_istore hX dX6_plain_291 (by decide) ?_
                refine j_iinc hX dX6_plain_293 rfl (by decide) ?_
                refine j_goto hX 211 dX6_plain_296 (by decide) ?_
                exact j_at (L' := [(0, .ref b), (1, .int (iZ (t : Int))), (2, .long (lZ (prd (σ 1) n))), (4, .long (lZ (((cyc σ n) : Nat) : Int))), (6, .int (iZ to)), (7, .long (lZ (ansF σ n m t).1)), (9, .long (lZ mo)), (11, .long (lZ k)), (13, .long (lZ (rst (σ 1) k (t9 + 1 - 1)))), (15, .int (iZ 0)), (16, .int (iZ (((t9 + 1) : Nat) : Int)))]) (hjo (ih2 (t9 + 1) _ _ _ (by omega) (by omega) hM3 hF3 hdg3 (Or.inr ⟨rfl, fun q9 => by rcases q9 t9 ht9 (by omega) with q | q <;> omega⟩))) ⟨rfl, rfl, rfl, rfl, rfl, rfl, rfl, rfl, rfl, rfl, rfl, trivial⟩
              · refine j_iconst hX dX6_plain_286 ?_
                refine j_goto hX 291 dX6_plain_287 (by decide) ?_
                refine j_istore hX dX6_plain_291 (by decide) ?_
                refine j_iinc hX dX6_plain_293 rfl (by decide) ?_
                refine j_goto hX 211 dX6_plain_296 (by decide) ?_
                exact j_at (L' := [(0, .ref b), (1, .int (iZ (t : Int))), (2, .long (lZ (prd (σ 1) n))), (4, .long (lZ (((cyc σ n) : Nat) : Int))), (6, .int (iZ to)), (7, .long (lZ (ansF σ n m t).1)), (9, .long (lZ mo)), (11, .long (lZ k)), (13, .long (lZ (rst (σ 1) k (t9 + 1 - 1)))), (15, .int (iZ 1)), (16, .int (iZ (((t9 + 1) : Nat) : Int)))]) (hjo (ih2 (t9 + 1) _ _ _ (by omega) (by omega) hM3 hF3 hdg3 (Or.inl ⟨rfl, fun j j1 j2 => by by_cases e : j = t9; subst e; exact Or.inr (by omega); (rcases has with ⟨_, q⟩ | ⟨q, _⟩; exact q j j1 (by omega); omega)⟩))) ⟨rfl, rfl, rfl, rfl, rfl, rfl, rfl, rfl, rfl, rfl, rfl, trivial⟩
      have h_M := hM1.1.1
      refine hji ?_
      refine j_lload hX dX6_plain_194 rfl ?_
      refine j_lload_n hX dX6_plain_196 rfl ?_
      refine j_lcmp_ge hX 346 dX6_plain_197 dX6_plain_198 (by decide) (by omega) (by omega) (fun c197 => ?_) (fun c197 => ?_)
      · have hkP : k = (prd (σ 1) n) := by omega
        have hpl := plm_eq (hmx.congr (fun y => by rw [hkP]; exact mS_all hO))
        refine j_iload hX dX6_plain_346 rfl ?_
        refine j_if_eq hX 367 dX6_plain_348 (by decide) (by omega) (fun c348 => ?_) (fun c348 => ?_)
        · refine j_lload hX dX6_plain_367 rfl ?_
          refine j_lload hX dX6_plain_369 rfl ?_
          refine j_lcmp_ne hX 379 dX6_plain_371 dX6_plain_372 (by decide) (by omega) (by omega) (fun c371 => ?_) (fun c371 => ?_)
          · refine j_iconst hX dX6_plain_379 ?_
            exact j_zret hX hR dX6_plain_380 (by omega) ⟨⟨0, rfl, Or.inr ⟨rfl, fun q => by have q2 := q.2.2.2.2.2 (fun j j1 j2 => by by_cases e : σ 7 j = -1; exact e; exact absurd (show tlU σ (n + 1) from ⟨j, j1, by omega, e⟩) (by rcases hto with ⟨q, _⟩ | ⟨_, q⟩; omega; exact q)); rw [hztn, ← hpl] at q2; omega⟩⟩, sp1, tu1, hM1.1, hF1⟩
          · refine j_iconst hX dX6_plain_375 ?_
            refine j_goto hX 380 dX6_plain_376 (by decide) ?_
            exact j_zret hX hR dX6_plain_380 (by omega) ⟨⟨1, rfl, Or.inl ⟨rfl, ⟨⟨by omega, by omega⟩, hm0, hR9, by rw [hztn]; exact hans, fun q => absurd (show tlU σ (n + 1) from (by obtain ⟨j, j1, j2, j3⟩ := q; exact ⟨j, j1, by omega, j3⟩)) (by rcases hto with ⟨q, _⟩ | ⟨_, q⟩; omega; exact q), fun _ => by rw [hztn, ← hpl]; omega⟩⟩⟩, sp1, tu1, hM1.1, hF1⟩
        · refine j_lload hX dX6_plain_351 rfl ?_
          refine j_lload hX dX6_plain_353 rfl ?_
          refine j_lcmp_gt hX 363 dX6_plain_355 dX6_plain_356 (by decide) (by omega) (by omega) (fun c355 => ?_) (fun c355 => ?_)
          · refine j_iconst hX dX6_plain_363 ?_
            refine j_goto hX 380 dX6_plain_364 (by decide) ?_
            exact j_zret hX hR dX6_plain_380 (by omega) ⟨⟨0, rfl, Or.inr ⟨rfl, fun q => by have q2 := q.2.2.2.2.1 (by obtain ⟨j, j1, j2, j3⟩ : tlU σ (n + 1) := (by rcases hto with ⟨_, q⟩ | ⟨q, _⟩; exact q; omega); exact ⟨j, j1, by omega, j3⟩); rw [hztn, ← hpl] at q2; omega⟩⟩, sp1, tu1, hM1.1, hF1⟩
          · refine j_iconst hX dX6_plain_359 ?_
            refine j_goto hX 380 dX6_plain_360 (by decide) ?_
            exact j_zret hX hR dX6_plain_380 (by omega) ⟨⟨1, rfl, Or.inl ⟨rfl, ⟨⟨by omega, by omega⟩, hm0, hR9, by rw [hztn]; exact hans, fun _ => by rw [hztn, ← hpl]; omega, fun q => by obtain ⟨j, j1, j2, j3⟩ : tlU σ (n + 1) := (by rcases hto with ⟨_, q⟩ | ⟨q, _⟩; exact q; omega); exact absurd (q j j1 (by omega)) j3⟩⟩⟩, sp1, tu1, hM1.1, hF1⟩
      · refine j_lload hX dX6_plain_201 rfl ?_
        refine j_lstore hX dX6_plain_203 (by decide) ?_
        refine j_iconst hX dX6_plain_205 ?_
        refine j_istore hX dX6_plain_206 (by decide) ?_
        refine j_iconst hX dX6_plain_208 ?_
        refine j_istore hX dX6_plain_209 (by decide) ?_
        exact j_at (L' := [(0, .ref b), (1, .int (iZ (t : Int))), (2, .long (lZ (prd (σ 1) n))), (4, .long (lZ (((cyc σ n) : Nat) : Int))), (6, .int (iZ to)), (7, .long (lZ (ansF σ n m t).1)), (9, .long (lZ mo)), (11, .long (lZ k)), (13, .long (lZ (rst (σ 1) k (1 - 1)))), (15, .int (iZ 1)), (16, .int (iZ ((1 : Nat) : Int)))]) (hjo (lq (by omega) n 1 1 τ1 h1 (by omega) (by omega) hM1 hF1 (fun j j1 j2 => by omega) (Or.inl ⟨rfl, fun j j1 j2 => by omega⟩))) ⟨rfl, rfl, rfl, rfl, rfl, rfl, rfl, rfl, rfl, rfl, rfl, trivial⟩
  have lf : ∀ (t : Nat) (sp1 tu1 : Int) (h1 : hF), (1 ≤ t ∧ t ≤ n) → z = (t : Int) → m = 0 → n ≤ 3 → Mo G h1 b A9 σ n m sp1 tu1 0 → Fm h h1 b A9 → ∀ (d t9 : Nat) (to : Int), d + t9 = n + 1 → 1 ≤ t9 → plU σ t9 → flg to (tlU σ t9) → JX 0 0 41 [(0, .ref b), (1, .int (iZ (t : Int))), (2, .long (lZ (prd (σ 1) (t9 - 1)))), (4, .long (lZ (((cyc σ (t9 - 1)) : Nat) : Int))), (6, .int (iZ to)), (7, .int (iZ ((t9 : Nat) : Int)))] [] h1 := by
    intro t sp1 tu1 h1 ht hzt hm0 hn3 hM1 hF1
    have h_M := hM1.1
    have h_a1 := hM1.a1
    have h_a3 := hM1.a3
    have h_a4 := hM1.a4
    have h_a6 := hM1.a6
    have h_a7 := hM1.a7
    have h_a8 := hM1.a8
    have hab := ans_b hO ht
    have hztn : z.toNat = t := by rw [hzt]; rfl
    have hlT := loT_b hO n (Nat.le_refl n)
    have hlI := loI_b hO m (Nat.le_refl m)
    intro d
    induction d with
    | zero =>
      intro t9 to hd ht9 hpl hto
      obtain rfl : t9 = n + 1 := by omega
      rw [show n + 1 - 1 = n by omega]
      have hP1 := prd_b3 hO n (Nat.le_refl n) hn3
      refine hji ?_
      refine j_iload hX dX6_plain_41 rfl ?_
      refine j_aload_n hX dX6_plain_43 rfl ?_
      refine j_get hX fl_X6_67_8 dX6_plain_44 h_M (by rfl) ?_
      refine j_icmp_gt hX 153 dX6_plain_47 (by decide) (by omega) (by omega) (fun c47 => ?_) (fun c47 => absurd c47 (by omega))
      refine j_aload_n hX dX6_plain_153 rfl ?_
      refine j_iload_n hX dX6_plain_154 rfl ?_
      refine j_callV hX cv_X6_129 (c6_search hM1 ht hO) dX6_plain_155 h_M rfl rfl (by exact ⟨Nat.le_of_ble_eq_true rfl, Nat.le_of_ble_eq_true rfl⟩) (by exact ⟨Nat.le_of_ble_eq_true rfl, Nat.le_of_ble_eq_true rfl⟩) (by exact Nat.le_of_ble_eq_true rfl) (fun v155 h155 hp155 => ?_) rfl
      obtain ⟨rfl, sp2, tu2, hM2, hF2, hres⟩ := hp155
      have h_M := hM2.1
      refine j_lstore hX dX6_plain_158 (by decide) ?_
      refine j_lload hX dX6_plain_160 rfl ?_
      refine j_lconst0 hX dX6_plain_162 ?_
      refine j_lcmp_lt hX 186 dX6_plain_163 dX6_plain_164 (by decide) (by omega) (by omega) (fun c163 => ?_) (fun c163 => ?_)
      · refine j_iconst hX dX6_plain_186 ?_
        exact j_zret hX hR dX6_plain_187 (by omega) ⟨⟨0, rfl, Or.inr ⟨rfl, fun q => q.2.2.2.1 (by rw [hztn]; omega)⟩⟩, sp2, tu2, hM2, (hF1.tr hF2)⟩
      · refine j_lload_n hX dX6_plain_167 rfl ?_
        refine j_ldc2 hX k_X6_151 (z := 60) (by decide) dX6_plain_168 ?_
        refine j_lcmp_gt hX 186 dX6_plain_171 dX6_plain_172 (by decide) (by omega) (by omega) (fun c171 => ?_) (fun c171 => ?_)
        · refine j_iconst hX dX6_plain_186 ?_
          exact j_zret hX hR dX6_plain_187 (by omega) ⟨⟨0, rfl, Or.inr ⟨rfl, fun q => by have := q.2.2.1.2.2.1; omega⟩⟩, sp2, tu2, hM2, (hF1.tr hF2)⟩
        · refine j_aload_n hX dX6_plain_175 rfl ?_
          refine j_callV hX cv_X6_144 (c6_load hM2 hO) dX6_plain_176 h_M rfl rfl (by exact ⟨Nat.le_of_ble_eq_true rfl, Nat.le_of_ble_eq_true rfl⟩) (by exact ⟨Nat.le_of_ble_eq_true rfl, Nat.le_of_ble_eq_true rfl⟩) (by exact Nat.le_of_ble_eq_true rfl) (fun v176 h176 hp176 => ?_) rfl
          obtain ⟨rfl, rfl⟩ := hp176
          refine j_ldc2 hX k_X6_142 (z := 1000000) (by decide) dX6_plain_179 ?_
          refine j_lcmp_le hX 188 dX6_plain_182 dX6_plain_183 (by decide) (by omega) (by omega) (fun c182 => ?_) (fun c182 => ?_)
          · refine j_lconst0 hX dX6_plain_188 ?_
            refine j_lstore hX dX6_plain_189 (by decide) ?_
            refine j_lconst0 hX dX6_plain_191 ?_
            refine j_lstore hX dX6_plain_192 (by decide) ?_
            obtain ⟨τ2, hMp⟩ := hM2.p
            exact j_at (L' := [(0, .ref b), (1, .int (iZ (t : Int))), (2, .long (lZ (prd (σ 1) n))), (4, .long (lZ (((cyc σ n) : Nat) : Int))), (6, .int (iZ to)), (7, .long (lZ (ansF σ n m t).1)), (9, .long (lZ 0)), (11, .long (lZ 0))]) (hjo (lm t sp2 tu2 to ht hzt hm0 ⟨hn3, fun j j1 j2 => hpl j j1 (by omega), by omega, by subst hm0; have : loI σ 0 = 0 := rfl; omega⟩ (by omega) hto (prd (σ 1) n).toNat 0 0 τ2 _ (by omega) (by omega) (by omega) hMp (hF1.tr hF2) (isMax.zero (fun y ⟨k2, q1, q2⟩ => by omega)) (by omega))) ⟨rfl, rfl, rfl, rfl, rfl, rfl, rfl, rfl, trivial⟩
          · refine j_iconst hX dX6_plain_186 ?_
            exact j_zret hX hR dX6_plain_187 (by omega) ⟨⟨0, rfl, Or.inr ⟨rfl, fun q => by have := q.2.2.1.2.2.2; subst hm0; have : loI σ 0 = 0 := rfl; omega⟩⟩, sp2, tu2, hM2, (hF1.tr hF2)⟩
    | succ d ih =>
      intro t9 to hd ht9 hpl hto
      have hto1 : to = 0 ∨ to = 1 := by rcases hto with ⟨z9, _⟩ | ⟨z9, _⟩ <;> omega
      obtain ⟨o9, rfl⟩ : ∃ o9, t9 = o9 + 1 := ⟨t9 - 1, by omega⟩
      rw [show o9 + 1 - 1 = o9 by omega]
      obtain ⟨p0, p1, p2, p3, p4, p5, p6, p7, p8, -⟩ := hO.2.2.1 (o9 + 1) (by omega) (by omega)
      have hP1 := prd_b3 hO o9 (by omega) (by omega)
      have hcy := cyc_b hO o9 (by omega)
      refine hji ?_
      refine j_iload hX dX6_plain_41 rfl ?_
      refine j_aload_n hX dX6_plain_43 rfl ?_
      refine j_get hX fl_X6_67_8 dX6_plain_44 h_M (by rfl) ?_
      refine j_icmp_gt hX 153 dX6_plain_47 (by decide) (by omega) (by omega) (fun c47 => absurd c47 (by omega)) (fun c47 => ?_)
      refine j_aload_n hX dX6_plain_50 rfl ?_
      refine j_get hX fl_X6_20_8 dX6_plain_51 h_M (by rfl) ?_
      refine j_iload hX dX6_plain_54 rfl ?_
      refine j_laldN hX _ rfl dX6_plain_56 h_a3 (by omega) (by decide) ?_
      refine j_lconst0 hX dX6_plain_57 ?_
      refine j_lcmp_gt hX 95 dX6_plain_58 dX6_plain_59 (by decide) (by omega) (by omega) (fun c58 => ?_) (fun c58 => ?_)
      · refine j_iconst hX dX6_plain_95 ?_
        exact j_zret hX hR dX6_plain_96 (by omega) ⟨⟨0, rfl, Or.inr ⟨rfl, fun q => by have := q.2.2.1.2.1 (o9 + 1) (by omega) (by omega); omega⟩⟩, sp1, tu1, hM1, hF1⟩
      · refine j_aload_n hX dX6_plain_62 rfl ?_
        refine j_get hX fl_X6_23_8 dX6_plain_63 h_M (by rfl) ?_
        refine j_iload hX dX6_plain_66 rfl ?_
        refine j_ialdN hX _ rfl dX6_plain_68 h_a4 (by omega) (by decide) ?_
        refine j_iconst hX dX6_plain_69 ?_
        refine j_icmp_gt hX 95 dX6_plain_70 (by decide) (by omega) (by omega) (fun c70 => ?_) (fun c70 => ?_)
        · refine j_iconst hX dX6_plain_95 ?_
          exact j_zret hX hR dX6_plain_96 (by omega) ⟨⟨0, rfl, Or.inr ⟨rfl, fun q => by have := q.2.2.1.2.1 (o9 + 1) (by omega) (by omega); omega⟩⟩, sp1, tu1, hM1, hF1⟩
        · refine j_aload_n hX dX6_plain_73 rfl ?_
          refine j_get hX fl_X6_35_8 dX6_plain_74 h_M (by rfl) ?_
          refine j_iload hX dX6_plain_77 rfl ?_
          refine j_ialdN hX _ rfl dX6_plain_79 h_a8 (by omega) (by decide) ?_
          refine j_if_gt hX 95 dX6_plain_80 (by decide) (by omega) (fun c80 => ?_) (fun c80 => ?_)
          · refine j_iconst hX dX6_plain_95 ?_
            exact j_zret hX hR dX6_plain_96 (by omega) ⟨⟨0, rfl, Or.inr ⟨rfl, fun q => by have := q.2.2.1.2.1 (o9 + 1) (by omega) (by omega); omega⟩⟩, sp1, tu1, hM1, hF1⟩
          · refine j_aload_n hX dX6_plain_83 rfl ?_
            refine j_get hX fl_X6_29_8 dX6_plain_84 h_M (by rfl) ?_
            refine j_iload hX dX6_plain_87 rfl ?_
            refine j_laldN hX _ rfl dX6_plain_89 h_a6 (by omega) (by decide) ?_
            refine j_lconst0 hX dX6_plain_90 ?_
            refine j_lcmp_le hX 97 dX6_plain_91 dX6_plain_92 (by decide) (by omega) (by omega) (fun c91 => ?_) (fun c91 => ?_)
            · refine j_lload_n hX dX6_plain_97 rfl ?_
              refine j_aload_n hX dX6_plain_98 rfl ?_
              refine j_get hX fl_X6_13_8 dX6_plain_99 h_M (by rfl) ?_
              refine j_iload hX dX6_plain_102 rfl ?_
              refine j_laldN hX _ rfl dX6_plain_104 h_a1 (by omega) (by decide) ?_
              refine j_lmul hX dX6_plain_105 ?_
              refine j_lstore_n hX dX6_plain_106 (by decide) ?_
              refine j_lload hX dX6_plain_107 rfl ?_
              refine j_aload_n hX dX6_plain_109 rfl ?_
              refine j_get hX fl_X6_13_8 dX6_plain_110 h_M (by rfl) ?_
              refine j_iload hX dX6_plain_113 rfl ?_
              refine j_laldN hX _ rfl dX6_plain_115 h_a1 (by omega) (by decide) ?_
              rw [show σ 1 (o9 + 1) = (((σ 1 (o9 + 1)).toNat : Nat) : Int) by omega]
              refine j_callS hX cs_X6_148 (c6_common (a := cyc σ o9) (b := (σ 1 (o9 + 1)).toNat) (by omega) (by omega)) dX6_plain_116 rfl (by exact ⟨Nat.le_of_ble_eq_true rfl, Nat.le_of_ble_eq_true rfl⟩) (by exact ⟨Nat.le_of_ble_eq_true rfl, Nat.le_of_ble_eq_true rfl⟩) (by exact Nat.le_of_ble_eq_true rfl) (fun v116 h116 hp116 => ?_) rfl
              obtain ⟨rfl, rfl⟩ := hp116
              rw [show (((σ 1 (o9 + 1)).toNat : Nat) : Int) = σ 1 (o9 + 1) by omega]
              refine j_lstore hX dX6_plain_119 (by decide) ?_
              refine j_iload hX dX6_plain_121 rfl ?_
              refine j_if_ne hX 140 dX6_plain_123 (by decide) (by omega) (fun c123 => ?_) (fun c123 => ?_)
              · refine j_iconst hX dX6_plain_140 ?_
                refine j_goto hX 145 dX6_plain_141 (by decide) ?_
                refine j_istore hX dX6_plain_145 (by decide) ?_
                refine j_iinc hX dX6_plain_147 rfl (by decide) ?_
                refine j_goto hX 41 dX6_plain_150 (by decide) ?_
                exact j_at (L' := [(0, .ref b), (1, .int (iZ (t : Int))), (2, .long (lZ (prd (σ 1) (o9 + 1 + 1 - 1)))), (4, .long (lZ (((cyc σ (o9 + 1 + 1 - 1)) : Nat) : Int))), (6, .int (iZ _)), (7, .int (iZ (((o9 + 1 + 1) : Nat) : Int)))]) (hjo (ih (o9 + 1 + 1) _ (by omega) (by omega) (fun j j1 j2 => by by_cases e : j = o9 + 1; subst e; exact ⟨by omega, by omega, by omega, by omega⟩; exact hpl j j1 (by omega)) (Or.inl ⟨rfl, by rcases hto with ⟨_, ⟨j, j1, j2, j3⟩⟩ | ⟨q, _⟩; exact ⟨j, j1, by omega, j3⟩; omega⟩))) ⟨rfl, rfl, rfl, rfl, rfl, rfl, trivial⟩
              · refine j_aload_n hX dX6_plain_126 rfl ?_
                refine j_get hX fl_X6_32_8 dX6_plain_127 h_M (by rfl) ?_
                refine j_iload hX dX6_plain_130 rfl ?_
                refine j_laldN hX _ rfl dX6_plain_132 h_a7 (by omega) (by decide) ?_
                refine j_ldc2 hX k_X6_80 (z := -1) (by decide) dX6_plain_133 ?_
                refine j_lcmp_eq hX 144 dX6_plain_136 dX6_plain_137 (by decide) (by omega) (by omega) (fun c136 => ?_) (fun c136 => ?_)
                · refine j_iconst hX dX6_plain_144 ?_
                  refine j_istore hX dX6_plain_145 (by decide) ?_
                  refine j_iinc hX dX6_plain_147 rfl (by decide) ?_
                  refine j_goto hX 41 dX6_plain_150 (by decide) ?_
                  exact j_at (L' := [(0, .ref b), (1, .int (iZ (t : Int))), (2, .long (lZ (prd (σ 1) (o9 + 1 + 1 - 1)))), (4, .long (lZ (((cyc σ (o9 + 1 + 1 - 1)) : Nat) : Int))), (6, .int (iZ _)), (7, .int (iZ (((o9 + 1 + 1) : Nat) : Int)))]) (hjo (ih (o9 + 1 + 1) _ (by omega) (by omega) (fun j j1 j2 => by by_cases e : j = o9 + 1; subst e; exact ⟨by omega, by omega, by omega, by omega⟩; exact hpl j j1 (by omega)) (Or.inr ⟨rfl, fun ⟨j, j1, j2, j3⟩ => by rcases hto with ⟨q, _⟩ | ⟨_, q⟩; omega; by_cases e : j = o9 + 1; subst e; omega; exact q ⟨j, j1, by omega, j3⟩⟩))) ⟨rfl, rfl, rfl, rfl, rfl, rfl, trivial⟩
                · refine j_iconst hX dX6_plain_140 ?_
                  refine j_goto hX 145 dX6_plain_141 (by decide) ?_
                  refine j_istore hX dX6_plain_145 (by decide) ?_
                  refine j_iinc hX dX6_plain_147 rfl (by decide) ?_
                  refine j_goto hX 41 dX6_plain_150 (by decide) ?_
                  exact j_at (L' := [(0, .ref b), (1, .int (iZ (t : Int))), (2, .long (lZ (prd (σ 1) (o9 + 1 + 1 - 1)))), (4, .long (lZ (((cyc σ (o9 + 1 + 1 - 1)) : Nat) : Int))), (6, .int (iZ _)), (7, .int (iZ (((o9 + 1 + 1) : Nat) : Int)))]) (hjo (ih (o9 + 1 + 1) _ (by omega) (by omega) (fun j j1 j2 => by by_cases e : j = o9 + 1; subst e; exact ⟨by omega, by omega, by omega, by omega⟩; exact hpl j j1 (by omega)) (Or.inl ⟨rfl, o9 + 1, by omega, by omega, by omega⟩))) ⟨rfl, rfl, rfl, rfl, rfl, rfl, trivial⟩
            · refine j_iconst hX dX6_plain_95 ?_
              exact j_zret hX hR dX6_plain_96 (by omega) ⟨⟨0, rfl, Or.inr ⟨rfl, fun q => by have := q.2.2.1.2.1 (o9 + 1) (by omega) (by omega); omega⟩⟩, sp1, tu1, hM1, hF1⟩
  refine hji ?_
  refine j_aload_n hX dX6_plain_0 rfl ?_
  refine j_iconst hX dX6_plain_1 ?_
  refine j_putE hX fp_X6_63_8 dX6_plain_2 h_M rfl rfl (Nat.le_of_ble_eq_true rfl) (fs2 := (MF A9 n m sp tu 0)) rfl ?_
  have hM0 := hM.fld (n' := n) (m' := m) (sp' := sp) (tu' := tu) (th' := 0)
  have h_M := hM0.1
  have hF0 : Fm h _ b A9 := (Fm.rf h b A9).b (.inr (8, MF A9 n m sp tu 0))
  refine j_aload_n hX dX6_plain_5 rfl ?_
  refine j_iload_n hX dX6_plain_6 rfl ?_
  refine j_callV hX cv_X6_82 (c6_isTaskF hM0 (by omega) (by omega)) dX6_plain_7 h_M rfl rfl (by exact ⟨Nat.le_of_ble_eq_true rfl, Nat.le_of_ble_eq_true rfl⟩) (by exact ⟨Nat.le_of_ble_eq_true rfl, Nat.le_of_ble_eq_true rfl⟩) (by exact Nat.le_of_ble_eq_true rfl) (fun v7 h7 hp7 => ?_) rfl
  obtain ⟨⟨y7, rfl, hy7⟩, rfl⟩ := hp7
  refine j_if_eq hX 28 dX6_plain_10 (by decide) (by omega) (fun c10 => ?_) (fun c10 => ?_)
  · refine j_iconst hX dX6_plain_28 ?_
    exact j_zret hX hR dX6_plain_29 (by omega) ⟨⟨0, rfl, Or.inr ⟨rfl, fun q => by have := q.1; omega⟩⟩, sp, tu, hM0, hF0⟩
  · obtain ⟨t, rfl⟩ : ∃ t : Nat, z = (t : Int) := ⟨z.toNat, by omega⟩
    refine j_aload_n hX dX6_plain_13 rfl ?_
    refine j_get hX fl_X6_67_8 dX6_plain_14 h_M (by rfl) ?_
    refine j_iconst hX dX6_plain_17 ?_
    refine j_icmp_gt hX 28 dX6_plain_18 (by decide) (by omega) (by omega) (fun c18 => ?_) (fun c18 => ?_)
    · refine j_iconst hX dX6_plain_28 ?_
      exact j_zret hX hR dX6_plain_29 (by omega) ⟨⟨0, rfl, Or.inr ⟨rfl, fun q => by have := q.2.2.1.1; omega⟩⟩, sp, tu, hM0, hF0⟩
    · refine j_aload_n hX dX6_plain_21 rfl ?_
      refine j_get hX fl_X6_90_8 dX6_plain_22 h_M (by rfl) ?_
      refine j_if_le hX 30 dX6_plain_25 (by decide) (by omega) (fun c25 => ?_) (fun c25 => ?_)
      · refine j_lconst1 hX dX6_plain_30 ?_
        refine j_lstore_n hX dX6_plain_31 (by decide) ?_
        refine j_lconst1 hX dX6_plain_32 ?_
        refine j_lstore hX dX6_plain_33 (by decide) ?_
        refine j_iconst hX dX6_plain_35 ?_
        refine j_istore hX dX6_plain_36 (by decide) ?_
        refine j_iconst hX dX6_plain_38 ?_
        refine j_istore hX dX6_plain_39 (by decide) ?_
        exact j_at (L' := [(0, .ref b), (1, .int (iZ (t : Int))), (2, .long (lZ (prd (σ 1) (1 - 1)))), (4, .long (lZ (((cyc σ (1 - 1)) : Nat) : Int))), (6, .int (iZ 0)), (7, .int (iZ ((1 : Nat) : Int)))]) (hjo (lf t sp tu _ ⟨by omega, by omega⟩ rfl (by omega) (by omega) hM0 hF0 n 1 0 (by omega) (by omega) (fun j j1 j2 => by omega) (Or.inr ⟨rfl, fun ⟨j, j1, j2, j3⟩ => by omega⟩))) ⟨rfl, rfl, rfl, rfl, rfl, rfl, trivial⟩
      · refine j_iconst hX dX6_plain_28 ?_
        exact j_zret hX hR dX6_plain_29 (by omega) ⟨⟨0, rfl, Or.inr ⟨rfl, fun q => by have := q.2.1; omega⟩⟩, sp, tu, hM0, hF0⟩
