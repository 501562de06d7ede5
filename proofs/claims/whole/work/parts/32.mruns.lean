/-! THE REFERENCE: common, longest -/
def isX (k : Nat) : Bool := Nat.ble 17 k && Nat.ble k 20
theorem isX_A {k : Nat} (h : isX k = true) : isA k = true ∧ isB k = false := by
  have h1 : 17 ≤ k ∧ k ≤ 20 := by
    unfold isX at h
    rw [Bool.and_eq_true] at h
    exact ⟨Nat.le_of_ble_eq_true h.1, Nat.le_of_ble_eq_true h.2⟩
  have h2 : ∀ j : Nat, j < 21 → 17 ≤ j → isA j = true ∧ isB j = false := by decide
  exact h2 k (by omega) h1.1
/-- .. with what the arrays of the runs hold -/
def MoP (G : Gt) (h : hF) (b : Nat) (A : Nat → Nat) (σ : St) (n m : Nat) (sp tu th : Int) (τ : St) : Prop := Mo G h b A σ n m sp tu th ∧ ∀ k : Nat, isX k = true → h (A k) = some (mcell G k (τ k))
section MOP
variable {G : Gt} {h : hF} {b : Nat} {A : Nat → Nat} {σ τ : St} {n m : Nat} {sp tu th : Int}
theorem Mo.p (hM : Mo G h b A σ n m sp tu th) : ∃ τ : St, MoP G h b A σ n m sp tu th τ := by
  obtain ⟨f1, h1⟩ := hM.2.2.2 17 rfl
  obtain ⟨f2, h2⟩ := hM.2.2.2 18 rfl
  obtain ⟨f3, h3⟩ := hM.2.2.2 19 rfl
  obtain ⟨f4, h4⟩ := hM.2.2.2 20 rfl
  refine ⟨fun k => if k = 17 then f1 else if k = 18 then f2 else if k = 19 then f3 else f4, hM, fun k hk => ?_⟩
  have h9 : 17 ≤ k ∧ k ≤ 20 := by
    unfold isX at hk
    rw [Bool.and_eq_true] at hk
    exact ⟨Nat.le_of_ble_eq_true hk.1, Nat.le_of_ble_eq_true hk.2⟩
  rcases (show k = 17 ∨ k = 18 ∨ k = 19 ∨ k = 20 by omega) with rfl | rfl | rfl | rfl
  · exact h1
  · exact h2
  · exact h3
  · exact h4
theorem MoP.arx (hM : MoP G h b A σ n m sp tu th τ) {k : Nat} (hk : isX k = true) (f : Nat → Int) : MoP G (hup h (A k) (mcell G k f)) b A σ n m sp tu th (sup τ k f) := by
  refine ⟨hM.1.arx (isX_A hk).1 (isX_A hk).2 f, fun j hj => ?_⟩
  by_cases e : j = k
  · subst e; rw [sup_eq, hup_eq]
  · rw [sup_ne e, hup_ne (fun q => e (hM.1.2.2.1 j k (isX_A hj).1 (isX_A hk).1 q))]
    exact hM.2 j hj
theorem MoP.a17 (hM : MoP G h b A σ n m sp tu th τ) : h (A 17) = some (gJ G 4 (τ 17)) := hM.2 17 rfl
theorem MoP.a18 (hM : MoP G h b A σ n m sp tu th τ) : h (A 18) = some (gJ G 4 (τ 18)) := hM.2 18 rfl
theorem MoP.a19 (hM : MoP G h b A σ n m sp tu th τ) : h (A 19) = some (gJ G 4 (τ 19)) := hM.2 19 rfl
theorem MoP.a20 (hM : MoP G h b A σ n m sp tu th τ) : h (A 20) = some (gZ G 4 (τ 20)) := hM.2 20 rfl
end MOP
set_option maxRecDepth 100000 in
set_option maxHeartbeats 4000000 in
theorem c6_common {l : Launch} {G : Gt} {B : Nat} {h : hF} {a b : Nat} (ha : 1 ≤ a ∧ a ≤ 10000000000000) (hb : 1 ≤ b ∧ b ≤ 20000) : Ct l G B yX6_common cX6_common 10 (some .long) 0 0 0 [.long (lZ (a : Int)), .long (lZ (b : Int))] h (fun v h' => v = .long (lZ ((Nat.lcm a b : Nat) : Int)) ∧ h = h') := by
  refine Ct.of (by decide) (Nat.le_of_ble_eq_true rfl) ?_
  intro p e s m9 below meth c A hX hR hin
  refine J_abs (J0 := J p l e _ s m9 _ below meth c _ _ G A) ?_
  intro JX hji hjo
  have lp : ∀ (d x y : Nat), y < d → 1 ≤ x + y → x ≤ 10000000000000 → y ≤ 10000000000000 → Nat.gcd x y = Nat.gcd a b → JX 0 0 6 [(0, .long (lZ (a : Int))), (2, .long (lZ (b : Int))), (4, .long (lZ ((x : Nat) : Int))), (6, .long (lZ ((y : Nat) : Int)))] [] h := by
    intro d
    induction d with
    | zero => intro x y hd; exact absurd hd (by omega)
    | succ d ih =>
      intro x y hd hxy hx9 hy9 hg
      refine hji ?_
      refine j_lload hX dX6_common_6 rfl ?_
      refine j_lconst0 hX dX6_common_8 ?_
      refine j_lcmp_eq hX 31 dX6_common_9 dX6_common_10 (by decide) (by omega) (by omega) (fun c9 => ?_) (fun c9 => ?_)
      · refine j_lload_n hX dX6_common_31 rfl ?_
        refine j_lload hX dX6_common_32 rfl ?_
        refine j_ldiv hX dX6_common_34 (by omega) (by omega) ?_
        refine j_lload_n hX dX6_common_35 rfl ?_
        refine j_lmul hX dX6_common_36 ?_
        exact j_lret hX hR dX6_common_37 ⟨by obtain rfl : y = 0 := (by omega); rw [Nat.gcd_zero_right] at hg; subst hg; rw [show (Nat.lcm a b) = a / Nat.gcd a b * b from (Nat.div_mul_right_comm (Nat.gcd_dvd_left a b) b).symm]; rfl, rfl⟩
      · refine j_lload hX dX6_common_13 rfl ?_
        refine j_lload hX dX6_common_15 rfl ?_
        refine j_lrem hX dX6_common_17 (by omega) (by omega) ?_
        refine j_lstore hX dX6_common_18 (by decide) ?_
        refine j_lload hX dX6_common_20 rfl ?_
        refine j_lstore hX dX6_common_22 (by decide) ?_
        refine j_lload hX dX6_common_24 rfl ?_
        refine j_lstore hX dX6_common_26 (by decide) ?_
        refine j_goto hX 6 dX6_common_28 (by decide) ?_
        exact j_at (L' := [(0, .long (lZ (a : Int))), (2, .long (lZ (b : Int))), (4, .long (lZ ((y : Nat) : Int))), (6, .long (lZ (((x % y) : Nat) : Int)))]) (hjo (ih y (x % y) (by have := Nat.mod_lt x (show 0 < y by omega); omega) (by omega) (by omega) (by have := Nat.mod_lt x (show 0 < y by omega); omega) (by rw [← hg, Nat.gcd_comm y, Nat.gcd_comm x]; exact (Nat.gcd_rec y x).symm))) ⟨rfl, rfl, rfl, rfl, trivial⟩
  refine hji ?_
  refine j_lload_n hX dX6_common_0 rfl ?_
  refine j_lstore hX dX6_common_1 (by decide) ?_
  refine j_lload_n hX dX6_common_3 rfl ?_
  refine j_lstore hX dX6_common_4 (by decide) ?_
  exact j_at (L' := [(0, .long (lZ (a : Int))), (2, .long (lZ (b : Int))), (4, .long (lZ ((a : Nat) : Int))), (6, .long (lZ ((b : Nat) : Int)))]) (hjo (lp (b + 1) a b (by omega) (by omega) (by omega) (by omega) rfl)) ⟨rfl, rfl, rfl, rfl, trivial⟩
def RelM (σ : St) (n : Nat) (τ : St) (x : Rs) : Prop := ∀ j : Nat, 1 ≤ j → j ≤ n → τ 17 j + τ 18 j * σ 1 j = x.1 j ∧ τ 19 j = x.2.1 j ∧ (τ 20 j = 0 ∨ τ 20 j = 1) ∧ (τ 20 j = 1 → ∀ o : Nat, 1 ≤ o → o ≤ n → o ≠ j → σ 2 o = σ 2 j → x.1 j < x.1 o ∨ (x.1 j = x.1 o ∧ j < o))
set_option maxRecDepth 100000 in
set_option maxHeartbeats 4000000 in
theorem c6_longest {l : Launch} {G : Gt} {B : Nat} {h : hF} {b : Nat} {A9 : Nat → Nat} {σ τ : St} {n m : Nat} {sp tu th : Int} (hM : MoP G h b A9 σ n m sp tu th τ) {t : Nat} (ht : 1 ≤ t ∧ t ≤ n) (hO : OK n m σ) (hR9 : RUN σ n) {φ : Nat → Int} {en : Int} (hen : 0 ≤ en ∧ en ≤ 180) (hφ : ∀ j : Nat, 1 ≤ j → j ≤ n → 0 ≤ φ j ∧ φ j < σ 1 j) (hfr : ∀ j : Nat, 1 ≤ j → j ≤ n → τ 17 j = φ j) : Ct l G B yX6_longest cX6_longest 11 (some .long) 0 0 0 [.ref b, .int (iZ (t : Int)), .long (lZ en)] h (fun v h' => v = .long (lZ (LST σ n en φ t)) ∧ ∃ τ1 : St, MoP G h' b A9 σ n m sp tu th τ1 ∧ Fm h h' b A9 ∧ τ1 17 = τ 17) := by
  refine Ct.of (by decide) (Nat.le_of_ble_eq_true rfl) ?_
  intro p e s m9 below meth c A hX hR hin
  have hn3 := hR9.1
  have hm8 := hO.2.1
  have hφt := hφ t ht.1 ht.2
  refine J_abs (J0 := J p l e _ s m9 _ below meth c _ _ G A) ?_
  intro JX hji hjo
  have lm : ∀ (d k : Nat) (τ1 : St) (h1 : hF), d + k = 20001 → MoP G h1 b A9 σ n m sp tu th τ1 → Fm h h1 b A9 → τ1 17 = τ 17 → RelM σ n τ1 (run σ n en (st0 σ φ (fun _ => 0)) k) → JX 0 0 54 [(0, .ref b), (1, .int (iZ (t : Int))), (2, .long (lZ en)), (4, .long (lZ ((run σ n en (st0 σ φ (fun _ => 0)) k).2.2 t))), (6, .long (lZ ((k : Nat) : Int)))] [] h1 := by
    intro d
    induction d with
    | zero =>
      intro k τ1 h1 hd hM1 hF1 h17 hRl
      have hov := run_ends hO hR9 (M := fun _ => 0) hen hφ ht (K := k) (by omega)
      have hlst := (over_run hO (en := en) (x := st0 σ φ (fun _ => 0)) ht k (hz - k)).2 hov
      rw [show k + (hz - k) = hz by unfold hz; omega] at hlst
      obtain ⟨e1, -⟩ := hRl t ht.1 ht.2
      have h_M := hM1.1.1
      have h_a0 := hM1.1.a0
      have h_a1 := hM1.1.a1
      have h_a2 := hM1.1.a2
      have h_a17 := hM1.a17
      have h_a18 := hM1.a18
      have h_a19 := hM1.a19
      have h_a20 := hM1.a20
      have hri := RI_run hO (M := fun _ => 0) (en := en) hφ k t ht.1 ht.2
      obtain ⟨-, o1, -⟩ := hO.2.2.1 t ht.1 ht.2
      refine hji ?_
      refine j_aload_n hX dX6_longest_54 rfl ?_
      refine j_get hX fl_X6_50_8 dX6_longest_55 h_M (by rfl) ?_
      refine j_iload_n hX dX6_longest_58 rfl ?_
      refine j_laldN hX _ rfl dX6_longest_59 h_a17 (by omega) (by decide) ?_
      refine j_aload_n hX dX6_longest_60 rfl ?_
      refine j_get hX fl_X6_53_8 dX6_longest_61 h_M (by rfl) ?_
      refine j_iload_n hX dX6_longest_64 rfl ?_
      refine j_laldN hX _ rfl dX6_longest_65 h_a18 (by omega) (by decide) ?_
      refine j_aload_n hX dX6_longest_66 rfl ?_
      refine j_get hX fl_X6_13_8 dX6_longest_67 h_M (by rfl) ?_
      refine j_iload_n hX dX6_longest_70 rfl ?_
      refine j_laldN hX _ rfl dX6_longest_71 h_a1 (by omega) (by decide) ?_
      refine j_lmul hX dX6_longest_72 ?_
      refine j_ladd hX dX6_longest_73 ?_
      rw [e1]
      refine j_lload_n hX dX6_longest_74 rfl ?_
      refine j_lcmp_ge hX 404 dX6_longest_75 dX6_longest_76 (by decide) (by omega) (by omega) (fun c75 => ?_) (fun c75 => absurd c75 (by omega))
      refine j_lload hX dX6_longest_404 rfl ?_
      exact j_lret hX hR dX6_longest_406 ⟨by rw [LST, hlst], τ1, hM1, hF1, h17⟩
    | succ d ih =>
      intro k τ1 h1 hd hM1 hF1 h17 hRl
      obtain ⟨e1, -⟩ := hRl t ht.1 ht.2
      have h_M := hM1.1.1
      have h_a0 := hM1.1.a0
      have h_a1 := hM1.1.a1
      have h_a2 := hM1.1.a2
      have h_a17 := hM1.a17
      have h_a18 := hM1.a18
      have h_a19 := hM1.a19
      have h_a20 := hM1.a20
      have hri := RI_run hO (M := fun _ => 0) (en := en) hφ k
      have hri9 := hri t ht.1 ht.2
      have hM0 := run_M0 (σ := σ) (n := n) (en := en) (φ := φ) (fun o a1 a2 => (hφ o a1 a2).1) (fun k2 o a1 a2 => by have q1 := RI_run hO (M := fun _ => 0) (en := en) hφ k2 o a1 a2; have q2 := hφ o a1 a2; omega) k t
      obtain ⟨-, o1, -⟩ := hO.2.2.1 t ht.1 ht.2
      have hov := fun hge : en ≤ (run σ n en (st0 σ φ (fun _ => 0)) k).1 t => (over_run hO (en := en) (x := st0 σ φ (fun _ => 0)) ht k (hz - k)).2 hge
      rw [show k + (hz - k) = hz by unfold hz; omega] at hov
      have hnx : (run σ n en (st0 σ φ (fun _ => 0)) (k + 1)) = stp σ n en k (run σ n en (st0 σ φ (fun _ => 0)) k) := rfl
      have hcl := chF_le σ (run σ n en (st0 σ φ (fun _ => 0)) k).1 (k : Int) n
      have hcb := chF_best (σ := σ) (O := (run σ n en (st0 σ φ (fun _ => 0)) k).1) (now := (k : Int)) n
      generalize hx : (run σ n en (st0 σ φ (fun _ => 0)) k) = x9 at *
      have lc : x9.1 t < en → ∀ (f t9 bs : Nat), f + t9 = n + 1 → 1 ≤ t9 → bs = chF σ x9.1 (k : Int) (t9 - 1) → JX 0 0 85 [(0, .ref b), (1, .int (iZ (t : Int))), (2, .long (lZ en)), (4, .long (lZ (x9.2.2 t))), (6, .long (lZ ((k : Nat) : Int))), (8, .int (iZ ((bs : Nat) : Int))), (9, .int (iZ ((t9 : Nat) : Int)))] [] h1 := by
        intro hlt f
        induction f with
        | zero =>
          intro t9 bs hf ht9 hbs
          rw [show t9 - 1 = n by omega] at hbs
          rw [← hbs] at hcl hcb
          refine hji ?_
          refine j_iload hX dX6_longest_85 rfl ?_
          refine j_aload_n hX dX6_longest_87 rfl ?_
          refine j_get hX fl_X6_67_8 dX6_longest_88 h_M (by rfl) ?_
          refine j_icmp_gt hX 269 dX6_longest_91 (by decide) (by omega) (by omega) (fun c91 => ?_) (fun c91 => absurd c91 (by omega))
          refine j_lload hX dX6_longest_269 rfl ?_
          refine j_lconst1 hX dX6_longest_271 ?_
          refine j_ladd hX dX6_longest_272 ?_
          refine j_lstore hX dX6_longest_273 (by decide) ?_
          refine j_iload hX dX6_longest_275 rfl ?_
          refine j_if_ne hX 283 dX6_longest_277 (by decide) (by omega) (fun c277 => ?_) (fun c277 => ?_)
          · have hbs1 : 1 ≤ bs ∧ bs ≤ n := by omega
            obtain ⟨r1, r2, r3, r4⟩ := hRl bs hbs1.1 hbs1.2
            obtain ⟨⟨g1, g2⟩, g3, g4⟩ := hri bs hbs1.1 hbs1.2
            obtain ⟨p0, p1, -⟩ := hO.2.2.1 bs hbs1.1 hbs1.2
            obtain ⟨hrdy, hbest⟩ := hcb (by omega)
            have hst : stp σ n en k x9 = stpW σ en k bs x9 := by unfold stp; rw [← hbs, if_neg (by omega)]
            have hφb := hφ bs hbs1.1 hbs1.2
            refine j_aload_n hX dX6_longest_283 rfl ?_
            refine j_get hX fl_X6_59_8 dX6_longest_284 h_M (by rfl) ?_
            refine j_iload hX dX6_longest_287 rfl ?_
            refine j_iconst hX dX6_longest_289 ?_
            refine j_zastN hX _ rfl dX6_longest_290 h_a20 (by omega) (by decide) (by omega) ?_
            have hM2 := hM1.arx (k := 20) rfl (zup (τ1 20) bs 1)
            have hF2 := hF1.a (k := 20) rfl (gZ G 4 (zup (τ1 20) bs 1))
            have h_M := hM2.1.1
            have h_a0 := hM2.1.a0
            have h_a1 := hM2.1.a1
            have h_a2 := hM2.1.a2
            have h_a17 := hM2.a17
            have h_a18 := hM2.a18
            have h_a19 := hM2.a19
            have h_a20 := hM2.a20
            have h_a19 : _ = some (gJ G 4 (τ1 19)) := hM2.a19
            refine j_aload_n hX dX6_longest_291 rfl ?_
            refine j_get hX fl_X6_56_8 dX6_longest_292 h_M (by rfl) ?_
            refine j_iload hX dX6_longest_295 rfl ?_
            refine j_dup2 hX dX6_longest_297 rfl rfl ?_
            refine j_laldN hX _ rfl dX6_longest_298 h_a19 (by omega) (by decide) ?_
            refine j_lconst1 hX dX6_longest_299 ?_
            refine j_lsub hX dX6_longest_300 ?_
            refine j_lastN hX _ rfl dX6_longest_301 h_a19 (by omega) (by decide) ?_
            have hM3 := hM2.arx (k := 19) rfl (zup (τ1 19) bs (τ1 19 bs - 1))
            have hF3 := hF2.a (k := 19) rfl (gJ G 4 (zup (τ1 19) bs (τ1 19 bs - 1)))
            have h_M := hM3.1.1
            have h_a0 := hM3.1.a0
            have h_a1 := hM3.1.a1
            have h_a2 := hM3.1.a2
            have h_a17 := hM3.a17
            have h_a18 := hM3.a18
            have h_a19 := hM3.a19
            have h_a20 := hM3.a20
            have h_a19 : _ = some (gJ G 4 (zup (τ1 19) bs (τ1 19 bs - 1))) := hM3.a19
            have h_a17 : _ = some (gJ G 4 (τ1 17)) := hM3.a17
            have h_a18 : _ = some (gJ G 4 (τ1 18)) := hM3.a18
            refine j_aload_n hX dX6_longest_302 rfl ?_
            refine j_get hX fl_X6_56_8 dX6_longest_303 h_M (by rfl) ?_
            refine j_iload hX dX6_longest_306 rfl ?_
            refine j_laldN hX _ rfl dX6_longest_308 h_a19 (by omega) (by decide) ?_
            rw [zup_eq]
            refine j_lconst0 hX dX6_longest_309 ?_
            refine j_lcmp_le hX 317 dX6_longest_310 dX6_longest_311 (by decide) (by omega) (by omega) (fun c310 => ?_) (fun c310 => ?_)
            · have hL1 : x9.2.1 bs = 1 := by omega
              refine j_lload hX dX6_longest_317 rfl ?_
              refine j_aload_n hX dX6_longest_319 rfl ?_
              refine j_get hX fl_X6_50_8 dX6_longest_320 h_M (by rfl) ?_
              refine j_iload hX dX6_longest_323 rfl ?_
              refine j_laldN hX _ rfl dX6_longest_325 h_a17 (by omega) (by decide) ?_
              refine j_lsub hX dX6_longest_326 ?_
              refine j_aload_n hX dX6_longest_327 rfl ?_
              refine j_get hX fl_X6_53_8 dX6_longest_328 h_M (by rfl) ?_
              refine j_iload hX dX6_longest_331 rfl ?_
              refine j_laldN hX _ rfl dX6_longest_333 h_a18 (by omega) (by decide) ?_
              refine j_aload_n hX dX6_longest_334 rfl ?_
              refine j_get hX fl_X6_13_8 dX6_longest_335 h_M (by rfl) ?_
              refine j_iload hX dX6_longest_338 rfl ?_
              refine j_laldN hX _ rfl dX6_longest_340 h_a1 (by omega) (by decide) ?_
              refine j_lmul hX dX6_longest_341 ?_
              refine j_lsub hX dX6_longest_342 ?_
              have etk : ((k : Int) + 1 - τ1 17 bs - τ1 18 bs * σ 1 bs) = (k : Int) + 1 - x9.1 bs := by omega
              rw [etk]
              refine j_lstore hX dX6_longest_343 (by decide) ?_
              refine j_iload hX dX6_longest_345 rfl ?_
              refine j_iload_n hX dX6_longest_347 rfl ?_
              refine j_icmp_ne hX 364 dX6_longest_348 (by decide) (by omega) (by omega) (fun c348 => ?_) (fun c348 => ?_)
              · refine j_lload hX dX6_longest_364 rfl ?_
                refine j_lstore hX dX6_longest_366 (by decide) ?_
                refine j_aload_n hX dX6_longest_368 rfl ?_
                refine j_get hX fl_X6_53_8 dX6_longest_369 h_M (by rfl) ?_
                refine j_iload hX dX6_longest_372 rfl ?_
                refine j_dup2 hX dX6_longest_374 rfl rfl ?_
                refine j_laldN hX _ rfl dX6_longest_375 h_a18 (by omega) (by decide) ?_
                refine j_lconst1 hX dX6_longest_376 ?_
                refine j_ladd hX dX6_longest_377 ?_
                refine j_lastN hX _ rfl dX6_longest_378 h_a18 (by omega) (by decide) ?_
                have hM4 := hM3.arx (k := 18) rfl (zup (τ1 18) bs (τ1 18 bs + 1))
                have hF4 := hF3.a (k := 18) rfl (gJ G 4 (zup (τ1 18) bs (τ1 18 bs + 1)))
                have h_M := hM4.1.1
                have h_a0 := hM4.1.a0
                have h_a1 := hM4.1.a1
                have h_a2 := hM4.1.a2
                have h_a17 := hM4.a17
                have h_a18 := hM4.a18
                have h_a19 := hM4.a19
                have h_a20 := hM4.a20
                have h_a19 : _ = some (gJ G 4 (zup (τ1 19) bs (τ1 19 bs - 1))) := hM4.a19
                refine j_aload_n hX dX6_longest_379 rfl ?_
                refine j_get hX fl_X6_56_8 dX6_longest_380 h_M (by rfl) ?_
                refine j_iload hX dX6_longest_383 rfl ?_
                refine j_aload_n hX dX6_longest_385 rfl ?_
                refine j_get hX fl_X6_7_8 dX6_longest_386 h_M (by rfl) ?_
                refine j_iload hX dX6_longest_389 rfl ?_
                refine j_laldN hX _ rfl dX6_longest_391 h_a0 (by omega) (by decide) ?_
                refine j_lastN hX _ rfl dX6_longest_392 h_a19 (by omega) (by decide) ?_
                have hM5 := hM4.arx (k := 19) rfl (zup (zup (τ1 19) bs (τ1 19 bs - 1)) bs (σ 0 bs))
                have hF5 := hF4.a (k := 19) rfl (gJ G 4 (zup (zup (τ1 19) bs (τ1 19 bs - 1)) bs (σ 0 bs)))
                have h_M := hM5.1.1
                have h_a0 := hM5.1.a0
                have h_a1 := hM5.1.a1
                have h_a2 := hM5.1.a2
                have h_a17 := hM5.a17
                have h_a18 := hM5.a18
                have h_a19 := hM5.a19
                have h_a20 := hM5.a20
                have h_a20 : _ = some (gZ G 4 (zup (τ1 20) bs 1)) := hM5.a20
                refine j_aload_n hX dX6_longest_393 rfl ?_
                refine j_get hX fl_X6_59_8 dX6_longest_394 h_M (by rfl) ?_
                refine j_iload hX dX6_longest_397 rfl ?_
                refine j_iconst hX dX6_longest_399 ?_
                refine j_zastN hX _ rfl dX6_longest_400 h_a20 (by omega) (by decide) (by omega) ?_
                have hM6 := hM5.arx (k := 20) rfl (zup (zup (τ1 20) bs 1) bs 0)
                have hF6 := hF5.a (k := 20) rfl (gZ G 4 (zup (zup (τ1 20) bs 1) bs 0))
                refine j_goto hX 54 dX6_longest_401 (by decide) ?_
                have hst2 : stpW σ en k bs x9 = (zup x9.1 bs (x9.1 bs + σ 1 bs), zup x9.2.1 bs (σ 0 bs), if x9.1 bs < en then zup x9.2.2 bs (mx2 (x9.2.2 bs) ((k : Int) + 1 - x9.1 bs)) else x9.2.2) := by unfold stpW; rw [if_pos (by omega)]
                rw [hst, hst2] at hnx
                have ih := ih (k + 1) _ _ (by omega) hM6 hF6 h17 (by
                  rw [hnx]
                  intro j j1 j2
                  obtain ⟨u1, u2, u3, u4⟩ := hRl j j1 j2
                  refine ⟨?_, ?_, ?_, ?_⟩
                  · show τ1 17 j + zup (τ1 18) bs (τ1 18 bs + 1) j * σ 1 j = zup x9.1 bs _ j
                    unfold zup
                    by_cases e : j = bs
                    · subst e; rw [if_pos rfl, if_pos rfl, Int.add_mul, Int.one_mul]; omega
                    · rw [if_neg e, if_neg e]; exact u1
                  · show zup (zup (τ1 19) bs _) bs (σ 0 bs) j = zup x9.2.1 bs _ j
                    rw [zup_zup]
                    unfold zup; split
                    · rfl
                    · exact u2
                  · show zup (zup (τ1 20) bs 1) bs 0 j = 0 ∨ zup (zup (τ1 20) bs 1) bs 0 j = 1
                    rw [zup_zup]
                    unfold zup; split
                    · exact Or.inl rfl
                    · exact u3
                  · intro hj
                    have hj : zup (zup (τ1 20) bs 1) bs 0 j = 1 := hj
                    rw [zup_zup] at hj
                    unfold zup at hj
                    by_cases e : j = bs
                    · rw [if_pos e] at hj; omega
                    · rw [if_neg e] at hj
                      intro o a1 a2 a3 a4
                      have u5 := u4 hj o a1 a2 a3 a4
                      show zup x9.1 bs _ j < zup x9.1 bs _ o ∨ (zup x9.1 bs _ j = zup x9.1 bs _ o ∧ j < o)
                      rw [zup_ne e]
                      unfold zup
                      by_cases e2 : o = bs
                      · subst e2; rw [if_pos rfl]; omega
                      · rw [if_neg e2]; exact u5)
                rw [hnx] at ih
                have hmo : (if x9.1 bs < en then zup x9.2.2 bs (mx2 (x9.2.2 bs) ((k : Int) + 1 - x9.1 bs)) else x9.2.2) t = (x9.2.2 t) := by split; rw [zup_ne (by omega)]; rfl
                dsimp only at ih
                rw [hmo] at ih
                exact j_at (L' := [(0, .ref b), (1, .int (iZ (t : Int))), (2, .long (lZ en)), (4, .long (lZ (x9.2.2 t))), (6, .long (lZ (((k + 1) : Nat) : Int)))]) (hjo ih) ⟨rfl, rfl, rfl, rfl, rfl, trivial⟩
              · have hbt : bs = t := by omega
                subst hbt
                refine j_lload hX dX6_longest_351 rfl ?_
                refine j_lload hX dX6_longest_353 rfl ?_
                refine j_lcmp_le hX 364 dX6_longest_355 dX6_longest_356 (by decide) (by omega) (by omega) (fun c355 => ?_) (fun c355 => ?_)
                · refine j_lload hX dX6_longest_364 rfl ?_
                  refine j_lstore hX dX6_longest_366 (by decide) ?_
                  refine j_aload_n hX dX6_longest_368 rfl ?_
                  refine j_get hX fl_X6_53_8 dX6_longest_369 h_M (by rfl) ?_
                  refine j_iload hX dX6_longest_372 rfl ?_
                  refine j_dup2 hX dX6_longest_374 rfl rfl ?_
                  refine j_laldN hX _ rfl dX6_longest_375 h_a18 (by omega) (by decide) ?_
                  refine j_lconst1 hX dX6_longest_376 ?_
                  refine j_ladd hX dX6_longest_377 ?_
                  refine j_lastN hX _ rfl dX6_longest_378 h_a18 (by omega) (by decide) ?_
                  have hM4 := hM3.arx (k := 18) rfl (zup (τ1 18) bs (τ1 18 bs + 1))
                  have hF4 := hF3.a (k := 18) rfl (gJ G 4 (zup (τ1 18) bs (τ1 18 bs + 1)))
                  have h_M := hM4.1.1
                  have h_a0 := hM4.1.a0
                  have h_a1 := hM4.1.a1
                  have h_a2 := hM4.1.a2
                  have h_a17 := hM4.a17
                  have h_a18 := hM4.a18
                  have h_a19 := hM4.a19
                  have h_a20 := hM4.a20
                  have h_a19 : _ = some (gJ G 4 (zup (τ1 19) bs (τ1 19 bs - 1))) := hM4.a19
                  refine j_aload_n hX dX6_longest_379 rfl ?_
                  refine j_get hX fl_X6_56_8 dX6_longest_380 h_M (by rfl) ?_
                  refine j_iload hX dX6_longest_383 rfl ?_
                  refine j_aload_n hX dX6_longest_385 rfl ?_
                  refine j_get hX fl_X6_7_8 dX6_longest_386 h_M (by rfl) ?_
                  refine j_iload hX dX6_longest_389 rfl ?_
                  refine j_laldN hX _ rfl dX6_longest_391 h_a0 (by omega) (by decide) ?_
                  refine j_lastN hX _ rfl dX6_longest_392 h_a19 (by omega) (by decide) ?_
                  have hM5 := hM4.arx (k := 19) rfl (zup (zup (τ1 19) bs (τ1 19 bs - 1)) bs (σ 0 bs))
                  have hF5 := hF4.a (k := 19) rfl (gJ G 4 (zup (zup (τ1 19) bs (τ1 19 bs - 1)) bs (σ 0 bs)))
                  have h_M := hM5.1.1
                  have h_a0 := hM5.1.a0
                  have h_a1 := hM5.1.a1
                  have h_a2 := hM5.1.a2
                  have h_a17 := hM5.a17
                  have h_a18 := hM5.a18
                  have h_a19 := hM5.a19
                  have h_a20 := hM5.a20
                  have h_a20 : _ = some (gZ G 4 (zup (τ1 20) bs 1)) := hM5.a20
                  refine j_aload_n hX dX6_longest_393 rfl ?_
                  refine j_get hX fl_X6_59_8 dX6_longest_394 h_M (by rfl) ?_
                  refine j_iload hX dX6_longest_397 rfl ?_
                  refine j_iconst hX dX6_longest_399 ?_
                  refine j_zastN hX _ rfl dX6_longest_400 h_a20 (by omega) (by decide) (by omega) ?_
                  have hM6 := hM5.arx (k := 20) rfl (zup (zup (τ1 20) bs 1) bs 0)
                  have hF6 := hF5.a (k := 20) rfl (gZ G 4 (zup (zup (τ1 20) bs 1) bs 0))
                  refine j_goto hX 54 dX6_longest_401 (by decide) ?_
                  have hst2 : stpW σ en k bs x9 = (zup x9.1 bs (x9.1 bs + σ 1 bs), zup x9.2.1 bs (σ 0 bs), if x9.1 bs < en then zup x9.2.2 bs (mx2 (x9.2.2 bs) ((k : Int) + 1 - x9.1 bs)) else x9.2.2) := by unfold stpW; rw [if_pos (by omega)]
                  rw [hst, hst2] at hnx
                  have ih := ih (k + 1) _ _ (by omega) hM6 hF6 h17 (by
                    rw [hnx]
                    intro j j1 j2
                    obtain ⟨u1, u2, u3, u4⟩ := hRl j j1 j2
                    refine ⟨?_, ?_, ?_, ?_⟩
                    · show τ1 17 j + zup (τ1 18) bs (τ1 18 bs + 1) j * σ 1 j = zup x9.1 bs _ j
                      unfold zup
                      by_cases e : j = bs
                      · subst e; rw [if_pos rfl, if_pos rfl, Int.add_mul, Int.one_mul]; omega
                      · rw [if_neg e, if_neg e]; exact u1
                    · show zup (zup (τ1 19) bs _) bs (σ 0 bs) j = zup x9.2.1 bs _ j
                      rw [zup_zup]
                      unfold zup; split
                      · rfl
                      · exact u2
                    · show zup (zup (τ1 20) bs 1) bs 0 j = 0 ∨ zup (zup (τ1 20) bs 1) bs 0 j = 1
                      rw [zup_zup]
                      unfold zup; split
                      · exact Or.inl rfl
                      · exact u3
                    · intro hj
                      have hj : zup (zup (τ1 20) bs 1) bs 0 j = 1 := hj
                      rw [zup_zup] at hj
                      unfold zup at hj
                      by_cases e : j = bs
                      · rw [if_pos e] at hj; omega
                      · rw [if_neg e] at hj
                        intro o a1 a2 a3 a4
                        have u5 := u4 hj o a1 a2 a3 a4
                        show zup x9.1 bs _ j < zup x9.1 bs _ o ∨ (zup x9.1 bs _ j = zup x9.1 bs _ o ∧ j < o)
                        rw [zup_ne e]
                        unfold zup
                        by_cases e2 : o = bs
                        · subst e2; rw [if_pos rfl]; omega
                        · rw [if_neg e2]; exact u5)
                  rw [hnx] at ih
                  have hmo : (if x9.1 bs < en then zup x9.2.2 bs (mx2 (x9.2.2 bs) ((k : Int) + 1 - x9.1 bs)) else x9.2.2) bs = (x9.2.2 bs) := by rw [if_pos hlt, zup_eq]; unfold mx2; rw [if_neg (by omega)]
                  dsimp only at ih
                  rw [hmo] at ih
                  exact j_at (L' := [(0, .ref b), (1, .int (iZ (bs : Int))), (2, .long (lZ en)), (4, .long (lZ (x9.2.2 bs))), (6, .long (lZ (((k + 1) : Nat) : Int)))]) (hjo ih) ⟨rfl, rfl, rfl, rfl, rfl, trivial⟩
                · refine j_lload hX dX6_longest_359 rfl ?_
                  refine j_goto hX 366 dX6_longest_361 (by decide) ?_
                  refine j_lstore hX dX6_longest_366 (by decide) ?_
                  refine j_aload_n hX dX6_longest_368 rfl ?_
                  refine j_get hX fl_X6_53_8 dX6_longest_369 h_M (by rfl) ?_
                  refine j_iload hX dX6_longest_372 rfl ?_
                  refine j_dup2 hX dX6_longest_374 rfl rfl ?_
                  refine j_laldN hX _ rfl dX6_longest_375 h_a18 (by omega) (by decide) ?_
                  refine j_lconst1 hX dX6_longest_376 ?_
                  refine j_ladd hX dX6_longest_377 ?_
                  refine j_lastN hX _ rfl dX6_longest_378 h_a18 (by omega) (by decide) ?_
                  have hM4 := hM3.arx (k := 18) rfl (zup (τ1 18) bs (τ1 18 bs + 1))
                  have hF4 := hF3.a (k := 18) rfl (gJ G 4 (zup (τ1 18) bs (τ1 18 bs + 1)))
                  have h_M := hM4.1.1
                  have h_a0 := hM4.1.a0
                  have h_a1 := hM4.1.a1
                  have h_a2 := hM4.1.a2
                  have h_a17 := hM4.a17
                  have h_a18 := hM4.a18
                  have h_a19 := hM4.a19
                  have h_a20 := hM4.a20
                  have h_a19 : _ = some (gJ G 4 (zup (τ1 19) bs (τ1 19 bs - 1))) := hM4.a19
                  refine j_aload_n hX dX6_longest_379 rfl ?_
                  refine j_get hX fl_X6_56_8 dX6_longest_380 h_M (by rfl) ?_
                  refine j_iload hX dX6_longest_383 rfl ?_
                  refine j_aload_n hX dX6_longest_385 rfl ?_
                  refine j_get hX fl_X6_7_8 dX6_longest_386 h_M (by rfl) ?_
                  refine j_iload hX dX6_longest_389 rfl ?_
                  refine j_laldN hX _ rfl dX6_longest_391 h_a0 (by omega) (by decide) ?_
                  refine j_lastN hX _ rfl dX6_longest_392 h_a19 (by omega) (by decide) ?_
                  have hM5 := hM4.arx (k := 19) rfl (zup (zup (τ1 19) bs (τ1 19 bs - 1)) bs (σ 0 bs))
                  have hF5 := hF4.a (k := 19) rfl (gJ G 4 (zup (zup (τ1 19) bs (τ1 19 bs - 1)) bs (σ 0 bs)))
                  have h_M := hM5.1.1
                  have h_a0 := hM5.1.a0
                  have h_a1 := hM5.1.a1
                  have h_a2 := hM5.1.a2
                  have h_a17 := hM5.a17
                  have h_a18 := hM5.a18
                  have h_a19 := hM5.a19
                  have h_a20 := hM5.a20
                  have h_a20 : _ = some (gZ G 4 (zup (τ1 20) bs 1)) := hM5.a20
                  refine j_aload_n hX dX6_longest_393 rfl ?_
                  refine j_get hX fl_X6_59_8 dX6_longest_394 h_M (by rfl) ?_
                  refine j_iload hX dX6_longest_397 rfl ?_
                  refine j_iconst hX dX6_longest_399 ?_
                  refine j_zastN hX _ rfl dX6_longest_400 h_a20 (by omega) (by decide) (by omega) ?_
                  have hM6 := hM5.arx (k := 20) rfl (zup (zup (τ1 20) bs 1) bs 0)
                  have hF6 := hF5.a (k := 20) rfl (gZ G 4 (zup (zup (τ1 20) bs 1) bs 0))
                  refine j_goto hX 54 dX6_longest_401 (by decide) ?_
                  have hst2 : stpW σ en k bs x9 = (zup x9.1 bs (x9.1 bs + σ 1 bs), zup x9.2.1 bs (σ 0 bs), if x9.1 bs < en then zup x9.2.2 bs (mx2 (x9.2.2 bs) ((k : Int) + 1 - x9.1 bs)) else x9.2.2) := by unfold stpW; rw [if_pos (by omega)]
                  rw [hst, hst2] at hnx
                  have ih := ih (k + 1) _ _ (by omega) hM6 hF6 h17 (by
                    rw [hnx]
                    intro j j1 j2
                    obtain ⟨u1, u2, u3, u4⟩ := hRl j j1 j2
                    refine ⟨?_, ?_, ?_, ?_⟩
                    · show τ1 17 j + zup (τ1 18) bs (τ1 18 bs + 1) j * σ 1 j = zup x9.1 bs _ j
                      unfold zup
                      by_cases e : j = bs
                      · subst e; rw [if_pos rfl, if_pos rfl, Int.add_mul, Int.one_mul]; omega
                      · rw [if_neg e, if_neg e]; exact u1
                    · show zup (zup (τ1 19) bs _) bs (σ 0 bs) j = zup x9.2.1 bs _ j
                      rw [zup_zup]
                      unfold zup; split
                      · rfl
                      · exact u2
                    · show zup (zup (τ1 20) bs 1) bs 0 j = 0 ∨ zup (zup (τ1 20) bs 1) bs 0 j = 1
                      rw [zup_zup]
                      unfold zup; split
                      · exact Or.inl rfl
                      · exact u3
                    · intro hj
                      have hj : zup (zup (τ1 20) bs 1) bs 0 j = 1 := hj
                      rw [zup_zup] at hj
                      unfold zup at hj
                      by_cases e : j = bs
                      · rw [if_pos e] at hj; omega
                      · rw [if_neg e] at hj
                        intro o a1 a2 a3 a4
                        have u5 := u4 hj o a1 a2 a3 a4
                        show zup x9.1 bs _ j < zup x9.1 bs _ o ∨ (zup x9.1 bs _ j = zup x9.1 bs _ o ∧ j < o)
                        rw [zup_ne e]
                        unfold zup
                        by_cases e2 : o = bs
                        · subst e2; rw [if_pos rfl]; omega
                        · rw [if_neg e2]; exact u5)
                  rw [hnx] at ih
                  have hmo : (if x9.1 bs < en then zup x9.2.2 bs (mx2 (x9.2.2 bs) ((k : Int) + 1 - x9.1 bs)) else x9.2.2) bs = ((k : Int) + 1 - x9.1 bs) := by rw [if_pos hlt, zup_eq]; unfold mx2; rw [if_pos (by omega)]
                  dsimp only at ih
                  rw [hmo] at ih
                  exact j_at (L' := [(0, .ref b), (1, .int (iZ (bs : Int))), (2, .long (lZ en)), (4, .long (lZ ((k : Int) + 1 - x9.1 bs))), (6, .long (lZ (((k + 1) : Nat) : Int)))]) (hjo ih) ⟨rfl, rfl, rfl, rfl, rfl, trivial⟩
            · refine j_goto hX 54 dX6_longest_314 (by decide) ?_
              have hst2 : stpW σ en k bs x9 = (x9.1, zup x9.2.1 bs (x9.2.1 bs - 1), x9.2.2) := by unfold stpW; rw [if_neg (by omega)]
              rw [hst, hst2] at hnx
              have ih := ih (k + 1) _ _ (by omega) hM3 hF3 h17 (by
                rw [hnx]
                intro j j1 j2
                obtain ⟨u1, u2, u3, u4⟩ := hRl j j1 j2
                refine ⟨u1, ?_, ?_, ?_⟩
                · show zup (τ1 19) bs _ j = zup x9.2.1 bs _ j
                  unfold zup; split
                  · omega
                  · exact u2
                · show zup (τ1 20) bs 1 j = 0 ∨ zup (τ1 20) bs 1 j = 1
                  unfold zup; split
                  · exact Or.inr rfl
                  · exact u3
                · intro hj
                  have hj : zup (τ1 20) bs 1 j = 1 := hj
                  show ∀ o : Nat, 1 ≤ o → o ≤ n → o ≠ j → σ 2 o = σ 2 j → x9.1 j < x9.1 o ∨ (x9.1 j = x9.1 o ∧ j < o)
                  unfold zup at hj
                  by_cases e : j = bs
                  · subst e
                    intro o a1 a2 a3 a4
                    rcases Int.lt_or_le (k : Int) (x9.1 o) with z | z
                    · exact Or.inl (by omega)
                    · rcases (hbest o a1 a2 z).2 a4 with z2 | z2 | z2
                      · exact absurd z2 a3
                      · exact Or.inl z2
                      · exact Or.inr z2
                  · rw [if_neg e] at hj
                    exact u4 hj)
              rw [hnx] at ih
              exact j_at (L' := [(0, .ref b), (1, .int (iZ (t : Int))), (2, .long (lZ en)), (4, .long (lZ (x9.2.2 t))), (6, .long (lZ (((k + 1) : Nat) : Int)))]) (hjo ih) ⟨rfl, rfl, rfl, rfl, rfl, trivial⟩
          · refine j_goto hX 54 dX6_longest_280 (by decide) ?_
            have hst : stp σ n en k x9 = x9 := by unfold stp; rw [if_pos (by omega)]
            rw [hst] at hnx
            have ih := ih (k + 1) τ1 h1 (by omega) hM1 hF1 h17 (by rw [hnx]; exact hRl)
            rw [hnx] at ih
            exact j_at (L' := [(0, .ref b), (1, .int (iZ (t : Int))), (2, .long (lZ en)), (4, .long (lZ (x9.2.2 t))), (6, .long (lZ (((k + 1) : Nat) : Int)))]) (hjo ih) ⟨rfl, rfl, rfl, rfl, rfl, trivial⟩
        | succ f ih2 =>
          intro t9 bs hf ht9 hbs
          obtain ⟨o9, rfl⟩ : ∃ o9, t9 = o9 + 1 := ⟨t9 - 1, by omega⟩
          rw [show o9 + 1 - 1 = o9 by omega] at hbs
          have hbl := chF_le σ x9.1 (k : Int) o9
          rw [← hbs] at hbl
          obtain ⟨r1, r2, r3, r4⟩ := hRl (o9 + 1) (by omega) (by omega)
          obtain ⟨⟨g1, g2⟩, g3, g4⟩ := hri (o9 + 1) (by omega) (by omega)
          have hφo := hφ (o9 + 1) (by omega) (by omega)
          obtain ⟨-, p1, p2, -⟩ := hO.2.2.1 (o9 + 1) (by omega) (by omega)
          have hcs : chF σ x9.1 (k : Int) (o9 + 1) = if x9.1 (o9 + 1) ≤ (k : Int) ∧ (bs = 0 ∨ σ 2 bs < σ 2 (o9 + 1) ∨ (σ 2 (o9 + 1) = σ 2 bs ∧ x9.1 (o9 + 1) < x9.1 bs)) then o9 + 1 else bs := by rw [hbs]; rfl
          refine hji ?_
          refine j_iload hX dX6_longest_85 rfl ?_
          refine j_aload_n hX dX6_longest_87 rfl ?_
          refine j_get hX fl_X6_67_8 dX6_longest_88 h_M (by rfl) ?_
          refine j_icmp_gt hX 269 dX6_longest_91 (by decide) (by omega) (by omega) (fun c91 => absurd c91 (by omega)) (fun c91 => ?_)
          refine j_aload_n hX dX6_longest_94 rfl ?_
          refine j_get hX fl_X6_50_8 dX6_longest_95 h_M (by rfl) ?_
          refine j_iload hX dX6_longest_98 rfl ?_
          refine j_laldN hX _ rfl dX6_longest_100 h_a17 (by omega) (by decide) ?_
          refine j_aload_n hX dX6_longest_101 rfl ?_
          refine j_get hX fl_X6_53_8 dX6_longest_102 h_M (by rfl) ?_
          refine j_iload hX dX6_longest_105 rfl ?_
          refine j_laldN hX _ rfl dX6_longest_107 h_a18 (by omega) (by decide) ?_
          refine j_aload_n hX dX6_longest_108 rfl ?_
          refine j_get hX fl_X6_13_8 dX6_longest_109 h_M (by rfl) ?_
          refine j_iload hX dX6_longest_112 rfl ?_
          refine j_laldN hX _ rfl dX6_longest_114 h_a1 (by omega) (by decide) ?_
          refine j_lmul hX dX6_longest_115 ?_
          refine j_ladd hX dX6_longest_116 ?_
          rw [r1]
          refine j_lload hX dX6_longest_117 rfl ?_
          refine j_lcmp_le hX 126 dX6_longest_119 dX6_longest_120 (by decide) (by omega) (by omega) (fun c119 => ?_) (fun c119 => ?_)
          · refine j_iload hX dX6_longest_126 rfl ?_
            refine j_if_eq hX 148 dX6_longest_128 (by decide) (by omega) (fun c128 => ?_) (fun c128 => ?_)
            · refine j_iload hX dX6_longest_148 rfl ?_
              refine j_istore hX dX6_longest_150 (by decide) ?_
              refine j_goto hX 263 dX6_longest_152 (by decide) ?_
              refine j_iinc hX dX6_longest_263 rfl (by decide) ?_
              refine j_goto hX 85 dX6_longest_266 (by decide) ?_
              exact j_at (L' := [(0, .ref b), (1, .int (iZ (t : Int))), (2, .long (lZ en)), (4, .long (lZ (x9.2.2 t))), (6, .long (lZ ((k : Nat) : Int))), (8, .int (iZ (((o9 + 1) : Nat) : Int))), (9, .int (iZ (((o9 + 1 + 1) : Nat) : Int)))]) (hjo (ih2 (o9 + 1 + 1) (o9 + 1) (by omega) (by omega) (by rw [show o9 + 1 + 1 - 1 = o9 + 1 by omega, hcs, if_pos (by omega)]))) ⟨rfl, rfl, rfl, rfl, rfl, rfl, rfl, trivial⟩
            · have hb9 : 1 ≤ bs ∧ bs ≤ n := by omega
              obtain ⟨s1, s2, s3, s4⟩ := hRl bs hb9.1 hb9.2
              obtain ⟨⟨w1, w2⟩, w3, w4⟩ := hri bs hb9.1 hb9.2
              have hφb := hφ bs hb9.1 hb9.2
              obtain ⟨-, v1, v2, -⟩ := hO.2.2.1 bs hb9.1 hb9.2
              refine j_aload_n hX dX6_longest_131 rfl ?_
              refine j_get hX fl_X6_16_8 dX6_longest_132 h_M (by rfl) ?_
              refine j_iload hX dX6_longest_135 rfl ?_
              refine j_ialdN hX _ rfl dX6_longest_137 h_a2 (by omega) (by decide) ?_
              refine j_aload_n hX dX6_longest_138 rfl ?_
              refine j_get hX fl_X6_16_8 dX6_longest_139 h_M (by rfl) ?_
              refine j_iload hX dX6_longest_142 rfl ?_
              refine j_ialdN hX _ rfl dX6_longest_144 h_a2 (by omega) (by decide) ?_
              refine j_icmp_le hX 155 dX6_longest_145 (by decide) (by omega) (by omega) (fun c145 => ?_) (fun c145 => ?_)
              · refine j_aload_n hX dX6_longest_155 rfl ?_
                refine j_get hX fl_X6_16_8 dX6_longest_156 h_M (by rfl) ?_
                refine j_iload hX dX6_longest_159 rfl ?_
                refine j_ialdN hX _ rfl dX6_longest_161 h_a2 (by omega) (by decide) ?_
                refine j_aload_n hX dX6_longest_162 rfl ?_
                refine j_get hX fl_X6_16_8 dX6_longest_163 h_M (by rfl) ?_
                refine j_iload hX dX6_longest_166 rfl ?_
                refine j_ialdN hX _ rfl dX6_longest_168 h_a2 (by omega) (by decide) ?_
                refine j_icmp_ne hX 263 dX6_longest_169 (by decide) (by omega) (by omega) (fun c169 => ?_) (fun c169 => ?_)
                · refine j_iinc hX dX6_longest_263 rfl (by decide) ?_
                  refine j_goto hX 85 dX6_longest_266 (by decide) ?_
                  exact j_at (L' := [(0, .ref b), (1, .int (iZ (t : Int))), (2, .long (lZ en)), (4, .long (lZ (x9.2.2 t))), (6, .long (lZ ((k : Nat) : Int))), (8, .int (iZ ((bs : Nat) : Int))), (9, .int (iZ (((o9 + 1 + 1) : Nat) : Int)))]) (hjo (ih2 (o9 + 1 + 1) bs (by omega) (by omega) (by rw [show o9 + 1 + 1 - 1 = o9 + 1 by omega, hcs, if_neg (by omega)]))) ⟨rfl, rfl, rfl, rfl, rfl, rfl, rfl, trivial⟩
                · refine j_aload_n hX dX6_longest_172 rfl ?_
                  refine j_get hX fl_X6_59_8 dX6_longest_173 h_M (by rfl) ?_
                  refine j_iload hX dX6_longest_176 rfl ?_
                  refine j_zaldN hX _ rfl dX6_longest_178 h_a20 (by omega) (by decide) ?_
                  refine j_if_ne hX 263 dX6_longest_179 (by decide) (by omega) (fun c179 => ?_) (fun c179 => ?_)
                  · refine j_iinc hX dX6_longest_263 rfl (by decide) ?_
                    refine j_goto hX 85 dX6_longest_266 (by decide) ?_
                    have s5 := s4 (by omega) (o9 + 1) (by omega) (by omega) (by omega) (by omega)
                    exact j_at (L' := [(0, .ref b), (1, .int (iZ (t : Int))), (2, .long (lZ en)), (4, .long (lZ (x9.2.2 t))), (6, .long (lZ ((k : Nat) : Int))), (8, .int (iZ ((bs : Nat) : Int))), (9, .int (iZ (((o9 + 1 + 1) : Nat) : Int)))]) (hjo (ih2 (o9 + 1 + 1) bs (by omega) (by omega) (by rw [show o9 + 1 + 1 - 1 = o9 + 1 by omega, hcs, if_neg (by omega)]))) ⟨rfl, rfl, rfl, rfl, rfl, rfl, rfl, trivial⟩
                  · refine j_aload_n hX dX6_longest_182 rfl ?_
                    refine j_get hX fl_X6_50_8 dX6_longest_183 h_M (by rfl) ?_
                    refine j_iload hX dX6_longest_186 rfl ?_
                    refine j_laldN hX _ rfl dX6_longest_188 h_a17 (by omega) (by decide) ?_
                    refine j_aload_n hX dX6_longest_189 rfl ?_
                    refine j_get hX fl_X6_53_8 dX6_longest_190 h_M (by rfl) ?_
                    refine j_iload hX dX6_longest_193 rfl ?_
                    refine j_laldN hX _ rfl dX6_longest_195 h_a18 (by omega) (by decide) ?_
                    refine j_aload_n hX dX6_longest_196 rfl ?_
                    refine j_get hX fl_X6_13_8 dX6_longest_197 h_M (by rfl) ?_
                    refine j_iload hX dX6_longest_200 rfl ?_
                    refine j_laldN hX _ rfl dX6_longest_202 h_a1 (by omega) (by decide) ?_
                    refine j_lmul hX dX6_longest_203 ?_
                    refine j_ladd hX dX6_longest_204 ?_
                    rw [r1]
                    refine j_aload_n hX dX6_longest_205 rfl ?_
                    refine j_get hX fl_X6_50_8 dX6_longest_206 h_M (by rfl) ?_
                    refine j_iload hX dX6_longest_209 rfl ?_
                    refine j_laldN hX _ rfl dX6_longest_211 h_a17 (by omega) (by decide) ?_
                    refine j_aload_n hX dX6_longest_212 rfl ?_
                    refine j_get hX fl_X6_53_8 dX6_longest_213 h_M (by rfl) ?_
                    refine j_iload hX dX6_longest_216 rfl ?_
                    refine j_laldN hX _ rfl dX6_longest_218 h_a18 (by omega) (by decide) ?_
                    refine j_aload_n hX dX6_longest_219 rfl ?_
                    refine j_get hX fl_X6_13_8 dX6_longest_220 h_M (by rfl) ?_
                    refine j_iload hX dX6_longest_223 rfl ?_
                    refine j_laldN hX _ rfl dX6_longest_225 h_a1 (by omega) (by decide) ?_
                    refine j_lmul hX dX6_longest_226 ?_
                    refine j_ladd hX dX6_longest_227 ?_
                    rw [s1]
                    refine j_lcmp_ge hX 236 dX6_longest_228 dX6_longest_229 (by decide) (by omega) (by omega) (fun c228 => ?_) (fun c228 => ?_)
                    · refine j_iconst hX dX6_longest_236 ?_
                      refine j_istore hX dX6_longest_237 (by decide) ?_
                      refine j_aload_n hX dX6_longest_239 rfl ?_
                      refine j_get hX fl_X6_59_8 dX6_longest_240 h_M (by rfl) ?_
                      refine j_iload hX dX6_longest_243 rfl ?_
                      refine j_zaldN hX _ rfl dX6_longest_245 h_a20 (by omega) (by decide) ?_
                      refine j_if_ne hX 254 dX6_longest_246 (by decide) (by omega) (fun c246 => ?_) (fun c246 => ?_)
                      · refine j_iload hX dX6_longest_254 rfl ?_
                        refine j_goto hX 261 dX6_longest_256 (by decide) ?_
                        refine j_istore hX dX6_longest_261 (by decide) ?_
                        refine j_iinc hX dX6_longest_263 rfl (by decide) ?_
                        refine j_goto hX 85 dX6_longest_266 (by decide) ?_
                        have r5 := r4 (by omega) bs (by omega) (by omega) (by omega) (by omega)
                        exact absurd r5 (by omega)
                      · refine j_iload hX dX6_longest_249 rfl ?_
                        refine j_if_eq hX 259 dX6_longest_251 (by decide) (by omega) (fun c251 => ?_) (fun c251 => absurd c251 (by exact fun z => z rfl))
                        refine j_iload hX dX6_longest_259 rfl ?_
                        refine j_istore hX dX6_longest_261 (by decide) ?_
                        refine j_iinc hX dX6_longest_263 rfl (by decide) ?_
                        refine j_goto hX 85 dX6_longest_266 (by decide) ?_
                        exact j_at (L' := [(0, .ref b), (1, .int (iZ (t : Int))), (2, .long (lZ en)), (4, .long (lZ (x9.2.2 t))), (6, .long (lZ ((k : Nat) : Int))), (8, .int (iZ ((bs : Nat) : Int))), (9, .int (iZ (((o9 + 1 + 1) : Nat) : Int)))]) (hjo (ih2 (o9 + 1 + 1) bs (by omega) (by omega) (by rw [show o9 + 1 + 1 - 1 = o9 + 1 by omega, hcs, if_neg (by omega)]))) ⟨rfl, rfl, rfl, rfl, rfl, rfl, rfl, trivial⟩
                    · refine j_iconst hX dX6_longest_232 ?_
                      refine j_goto hX 237 dX6_longest_233 (by decide) ?_
                      refine j_istore hX dX6_longest_237 (by decide) ?_
                      refine j_aload_n hX dX6_longest_239 rfl ?_
                      refine j_get hX fl_X6_59_8 dX6_longest_240 h_M (by rfl) ?_
                      refine j_iload hX dX6_longest_243 rfl ?_
                      refine j_zaldN hX _ rfl dX6_longest_245 h_a20 (by omega) (by decide) ?_
                      refine j_if_ne hX 254 dX6_longest_246 (by decide) (by omega) (fun c246 => ?_) (fun c246 => ?_)
                      · refine j_iload hX dX6_longest_254 rfl ?_
                        refine j_goto hX 261 dX6_longest_256 (by decide) ?_
                        refine j_istore hX dX6_longest_261 (by decide) ?_
                        refine j_iinc hX dX6_longest_263 rfl (by decide) ?_
                        refine j_goto hX 85 dX6_longest_266 (by decide) ?_
                        exact j_at (L' := [(0, .ref b), (1, .int (iZ (t : Int))), (2, .long (lZ en)), (4, .long (lZ (x9.2.2 t))), (6, .long (lZ ((k : Nat) : Int))), (8, .int (iZ (((o9 + 1) : Nat) : Int))), (9, .int (iZ (((o9 + 1 + 1) : Nat) : Int)))]) (hjo (ih2 (o9 + 1 + 1) (o9 + 1) (by omega) (by omega) (by rw [show o9 + 1 + 1 - 1 = o9 + 1 by omega, hcs, if_pos (by omega)]))) ⟨rfl, rfl, rfl, rfl, rfl, rfl, rfl, trivial⟩
                      · refine j_iload hX dX6_longest_249 rfl ?_
                        refine j_if_eq hX 259 dX6_longest_251 (by decide) (by omega) (fun c251 => absurd c251 (by omega)) (fun c251 => ?_)
                        refine j_iload hX dX6_longest_254 rfl ?_
                        refine j_goto hX 261 dX6_longest_256 (by decide) ?_
                        refine j_istore hX dX6_longest_261 (by decide) ?_
                        refine j_iinc hX dX6_longest_263 rfl (by decide) ?_
                        refine j_goto hX 85 dX6_longest_266 (by decide) ?_
                        exact j_at (L' := [(0, .ref b), (1, .int (iZ (t : Int))), (2, .long (lZ en)), (4, .long (lZ (x9.2.2 t))), (6, .long (lZ ((k : Nat) : Int))), (8, .int (iZ (((o9 + 1) : Nat) : Int))), (9, .int (iZ (((o9 + 1 + 1) : Nat) : Int)))]) (hjo (ih2 (o9 + 1 + 1) (o9 + 1) (by omega) (by omega) (by rw [show o9 + 1 + 1 - 1 = o9 + 1 by omega, hcs, if_pos (by omega)]))) ⟨rfl, rfl, rfl, rfl, rfl, rfl, rfl, trivial⟩
              · refine j_iload hX dX6_longest_148 rfl ?_
                refine j_istore hX dX6_longest_150 (by decide) ?_
                refine j_goto hX 263 dX6_longest_152 (by decide) ?_
                refine j_iinc hX dX6_longest_263 rfl (by decide) ?_
                refine j_goto hX 85 dX6_longest_266 (by decide) ?_
                exact j_at (L' := [(0, .ref b), (1, .int (iZ (t : Int))), (2, .long (lZ en)), (4, .long (lZ (x9.2.2 t))), (6, .long (lZ ((k : Nat) : Int))), (8, .int (iZ (((o9 + 1) : Nat) : Int))), (9, .int (iZ (((o9 + 1 + 1) : Nat) : Int)))]) (hjo (ih2 (o9 + 1 + 1) (o9 + 1) (by omega) (by omega) (by rw [show o9 + 1 + 1 - 1 = o9 + 1 by omega, hcs, if_pos (by omega)]))) ⟨rfl, rfl, rfl, rfl, rfl, rfl, rfl, trivial⟩
          · refine j_goto hX 263 dX6_longest_123 (by decide) ?_
            refine j_iinc hX dX6_longest_263 rfl (by decide) ?_
            refine j_goto hX 85 dX6_longest_266 (by decide) ?_
            exact j_at (L' := [(0, .ref b), (1, .int (iZ (t : Int))), (2, .long (lZ en)), (4, .long (lZ (x9.2.2 t))), (6, .long (lZ ((k : Nat) : Int))), (8, .int (iZ ((bs : Nat) : Int))), (9, .int (iZ (((o9 + 1 + 1) : Nat) : Int)))]) (hjo (ih2 (o9 + 1 + 1) bs (by omega) (by omega) (by rw [show o9 + 1 + 1 - 1 = o9 + 1 by omega, hcs, if_neg (by omega)]))) ⟨rfl, rfl, rfl, rfl, rfl, rfl, rfl, trivial⟩
      refine hji ?_
      refine j_aload_n hX dX6_longest_54 rfl ?_
      refine j_get hX fl_X6_50_8 dX6_longest_55 h_M (by rfl) ?_
      refine j_iload_n hX dX6_longest_58 rfl ?_
      refine j_laldN hX _ rfl dX6_longest_59 h_a17 (by omega) (by decide) ?_
      refine j_aload_n hX dX6_longest_60 rfl ?_
      refine j_get hX fl_X6_53_8 dX6_longest_61 h_M (by rfl) ?_
      refine j_iload_n hX dX6_longest_64 rfl ?_
      refine j_laldN hX _ rfl dX6_longest_65 h_a18 (by omega) (by decide) ?_
      refine j_aload_n hX dX6_longest_66 rfl ?_
      refine j_get hX fl_X6_13_8 dX6_longest_67 h_M (by rfl) ?_
      refine j_iload_n hX dX6_longest_70 rfl ?_
      refine j_laldN hX _ rfl dX6_longest_71 h_a1 (by omega) (by decide) ?_
      refine j_lmul hX dX6_longest_72 ?_
      refine j_ladd hX dX6_longest_73 ?_
      rw [e1]
      refine j_lload_n hX dX6_longest_74 rfl ?_
      refine j_lcmp_ge hX 404 dX6_longest_75 dX6_longest_76 (by decide) (by omega) (by omega) (fun c75 => ?_) (fun c75 => ?_)
      · refine j_lload hX dX6_longest_404 rfl ?_
        have hlst := hov (by omega)
        exact j_lret hX hR dX6_longest_406 ⟨by rw [LST, hlst], τ1, hM1, hF1, h17⟩
      · refine j_iconst hX dX6_longest_79 ?_
        refine j_istore hX dX6_longest_80 (by decide) ?_
        refine j_iconst hX dX6_longest_82 ?_
        refine j_istore hX dX6_longest_83 (by decide) ?_
        exact j_at (L' := [(0, .ref b), (1, .int (iZ (t : Int))), (2, .long (lZ en)), (4, .long (lZ (x9.2.2 t))), (6, .long (lZ ((k : Nat) : Int))), (8, .int (iZ ((0 : Nat) : Int))), (9, .int (iZ ((1 : Nat) : Int)))]) (hjo (lc (by omega) n 1 0 (by omega) (by omega) rfl)) ⟨rfl, rfl, rfl, rfl, rfl, rfl, rfl, trivial⟩
  have lf : ∀ (d t9 : Nat) (τ1 : St) (h1 : hF), d + t9 = n + 1 → 1 ≤ t9 → MoP G h1 b A9 σ n m sp tu th τ1 → Fm h h1 b A9 → τ1 17 = τ 17 → (∀ j : Nat, 1 ≤ j → j < t9 → τ1 18 j = 0 ∧ τ1 19 j = σ 0 j ∧ τ1 20 j = 0) → JX 0 0 3 [(0, .ref b), (1, .int (iZ (t : Int))), (2, .long (lZ en)), (4, .int (iZ ((t9 : Nat) : Int)))] [] h1 := by
    intro d
    induction d with
    | zero =>
      intro t9 τ1 h1 hd ht9 hM1 hF1 h17 hz0
      have h_M := hM1.1.1
      have h_a0 := hM1.1.a0
      have h_a1 := hM1.1.a1
      have h_a2 := hM1.1.a2
      have h_a17 := hM1.a17
      have h_a18 := hM1.a18
      have h_a19 := hM1.a19
      have h_a20 := hM1.a20
      refine hji ?_
      refine j_iload hX dX6_longest_3 rfl ?_
      refine j_aload_n hX dX6_longest_5 rfl ?_
      refine j_get hX fl_X6_67_8 dX6_longest_6 h_M (by rfl) ?_
      refine j_icmp_gt hX 48 dX6_longest_9 (by decide) (by omega) (by omega) (fun c9 => ?_) (fun c9 => absurd c9 (by omega))
      refine j_lconst0 hX dX6_longest_48 ?_
      refine j_lstore hX dX6_longest_49 (by decide) ?_
      refine j_lconst0 hX dX6_longest_51 ?_
      refine j_lstore hX dX6_longest_52 (by decide) ?_
      exact j_at (L' := [(0, .ref b), (1, .int (iZ (t : Int))), (2, .long (lZ en)), (4, .long (lZ 0)), (6, .long (lZ ((0 : Nat) : Int)))]) (hjo (lm 20001 0 τ1 h1 (by omega) hM1 hF1 h17 (fun j j1 j2 => by
        obtain ⟨z1, z2, z3⟩ := hz0 j j1 (by omega)
        refine ⟨?_, z2, Or.inl z3, fun z => by omega⟩
        rw [z1, h17, Int.zero_mul, Int.add_zero]
        exact hfr j j1 j2))) ⟨rfl, rfl, rfl, rfl, rfl, trivial⟩
    | succ d ih =>
      intro t9 τ1 h1 hd ht9 hM1 hF1 h17 hz0
      have h_M := hM1.1.1
      have h_a0 := hM1.1.a0
      have h_a1 := hM1.1.a1
      have h_a2 := hM1.1.a2
      have h_a17 := hM1.a17
      have h_a18 := hM1.a18
      have h_a19 := hM1.a19
      have h_a20 := hM1.a20
      refine hji ?_
      refine j_iload hX dX6_longest_3 rfl ?_
      refine j_aload_n hX dX6_longest_5 rfl ?_
      refine j_get hX fl_X6_67_8 dX6_longest_6 h_M (by rfl) ?_
      refine j_icmp_gt hX 48 dX6_longest_9 (by decide) (by omega) (by omega) (fun c9 => absurd c9 (by omega)) (fun c9 => ?_)
      refine j_aload_n hX dX6_longest_12 rfl ?_
      refine j_get hX fl_X6_53_8 dX6_longest_13 h_M (by rfl) ?_
      refine j_iload hX dX6_longest_16 rfl ?_
      refine j_lconst0 hX dX6_longest_18 ?_
      refine j_lastN hX _ rfl dX6_longest_19 h_a18 (by omega) (by decide) ?_
      have hM2 := hM1.arx (k := 18) rfl (zup (τ1 18) t9 0)
      have hF2 := hF1.a (k := 18) rfl (gJ G 4 (zup (τ1 18) t9 0))
      have h_M := hM2.1.1
      have h_a0 := hM2.1.a0
      have h_a1 := hM2.1.a1
      have h_a2 := hM2.1.a2
      have h_a17 := hM2.a17
      have h_a18 := hM2.a18
      have h_a19 := hM2.a19
      have h_a20 := hM2.a20
      have h_a19 : _ = some (gJ G 4 (τ1 19)) := hM2.a19
      refine j_aload_n hX dX6_longest_20 rfl ?_
      refine j_get hX fl_X6_56_8 dX6_longest_21 h_M (by rfl) ?_
      refine j_iload hX dX6_longest_24 rfl ?_
      refine j_aload_n hX dX6_longest_26 rfl ?_
      refine j_get hX fl_X6_7_8 dX6_longest_27 h_M (by rfl) ?_
      refine j_iload hX dX6_longest_30 rfl ?_
      refine j_laldN hX _ rfl dX6_longest_32 h_a0 (by omega) (by decide) ?_
      refine j_lastN hX _ rfl dX6_longest_33 h_a19 (by omega) (by decide) ?_
      have hM3 := hM2.arx (k := 19) rfl (zup (τ1 19) t9 (σ 0 t9))
      have hF3 := hF2.a (k := 19) rfl (gJ G 4 (zup (τ1 19) t9 (σ 0 t9)))
      have h_M := hM3.1.1
      have h_a0 := hM3.1.a0
      have h_a1 := hM3.1.a1
      have h_a2 := hM3.1.a2
      have h_a17 := hM3.a17
      have h_a18 := hM3.a18
      have h_a19 := hM3.a19
      have h_a20 := hM3.a20
      have h_a20 : _ = some (gZ G 4 (τ1 20)) := hM3.a20
      refine j_aload_n hX dX6_longest_34 rfl ?_
      refine j_get hX fl_X6_59_8 dX6_longest_35 h_M (by rfl) ?_
      refine j_iload hX dX6_longest_38 rfl ?_
      refine j_iconst hX dX6_longest_40 ?_
      refine j_zastN hX _ rfl dX6_longest_41 h_a20 (by omega) (by decide) (by omega) ?_
      have hM4 := hM3.arx (k := 20) rfl (zup (τ1 20) t9 0)
      have hF4 := hF3.a (k := 20) rfl (gZ G 4 (zup (τ1 20) t9 0))
      refine j_iinc hX dX6_longest_42 rfl (by decide) ?_
      refine j_goto hX 3 dX6_longest_45 (by decide) ?_
      exact j_at (L' := [(0, .ref b), (1, .int (iZ (t : Int))), (2, .long (lZ en)), (4, .int (iZ (((t9 + 1) : Nat) : Int)))]) (hjo (ih (t9 + 1) _ _ (by omega) (by omega) hM4 hF4 h17 (fun j j1 j2 => by
        show zup (τ1 18) t9 0 j = 0 ∧ zup (τ1 19) t9 (σ 0 t9) j = σ 0 j ∧ zup (τ1 20) t9 0 j = 0
        by_cases e : j = t9
        · subst e; rw [zup_eq, zup_eq, zup_eq]; exact ⟨rfl, rfl, rfl⟩
        · rw [zup_ne e, zup_ne e, zup_ne e]; exact hz0 j j1 (by omega)))) ⟨rfl, rfl, rfl, rfl, trivial⟩
  refine hji ?_
  refine j_iconst hX dX6_longest_0 ?_
  refine j_istore hX dX6_longest_1 (by decide) ?_
  exact j_at (L' := [(0, .ref b), (1, .int (iZ (t : Int))), (2, .long (lZ en)), (4, .int (iZ ((1 : Nat) : Int)))]) (hjo (lf n 1 τ h (by omega) (by omega) hM (Fm.rf h b A9) rfl (fun j j1 j2 => by omega))) ⟨rfl, rfl, rfl, rfl, trivial⟩
