/-! THE REFERENCE: reason; its start -/
def cntA (σ : St) (t : Nat) : Nat → Int
  | 0 => 0
  | o + 1 => cntA σ t o + if o + 1 ≠ t ∧ σ 2 t ≤ σ 2 (o + 1) then 1 else 0
def rowF (σ : St) (t : Nat) (p : Int) : Nat → Nat
  | 0 => 0
  | o + 1 => if (o + 1 ≠ t ∧ σ 2 t ≤ σ 2 (o + 1)) ∧ cntA σ t o = p then o + 1 else rowF σ t p o
theorem cntA_b (σ : St) (t : Nat) : ∀ o : Nat, 0 ≤ cntA σ t o ∧ cntA σ t o ≤ (o : Int)
  | 0 => ⟨Int.le_refl 0, Int.le_refl 0⟩
  | o + 1 => by have ih := cntA_b σ t o; unfold cntA; split <;> omega
theorem rowF_le (σ : St) (t : Nat) (p : Int) : ∀ o : Nat, rowF σ t p o ≤ o
  | 0 => Nat.le_refl 0
  | o + 1 => by have ih := rowF_le σ t p o; unfold rowF; split <;> omega
theorem rowF_has {σ : St} {t : Nat} {p : Int} : ∀ o : Nat, 0 ≤ p → p < cntA σ t o → rowF σ t p o ≠ 0
  | 0, h0, h => absurd h (by show ¬ p < 0; omega)
  | o + 1, h0, h => by
    have ih := rowF_has (σ := σ) (t := t) (p := p) o h0
    unfold cntA at h
    unfold rowF
    by_cases e : o + 1 ≠ t ∧ σ 2 t ≤ σ 2 (o + 1)
    · rw [if_pos e] at h
      by_cases e2 : cntA σ t o = p
      · rw [if_pos ⟨e, e2⟩]; omega
      · rw [if_neg (fun z => e2 z.2)]; exact ih (by omega)
    · rw [if_neg e] at h
      rw [if_neg (fun z => e z.1)]; exact ih (by omega)
theorem rowF_no {σ : St} {t : Nat} {p : Int} : ∀ o : Nat, cntA σ t o ≤ p → rowF σ t p o = 0
  | 0, _ => rfl
  | o + 1, h => by
    have ih := rowF_no (σ := σ) (t := t) (p := p) o
    unfold cntA at h
    unfold rowF
    by_cases e : o + 1 ≠ t ∧ σ 2 t ≤ σ 2 (o + 1)
    · rw [if_pos e] at h
      rw [if_neg (by omega)]; exact ih (by omega)
    · rw [if_neg e] at h
      rw [if_neg (fun z => e z.1)]; exact ih (by omega)
theorem cntA_mono (σ : St) (t : Nat) (o : Nat) : ∀ d : Nat, cntA σ t o ≤ cntA σ t (o + d)
  | 0 => Int.le_refl _
  | d + 1 => by
    have ih := cntA_mono σ t o d
    show cntA σ t o ≤ cntA σ t (o + d) + _
    split <;> omega
theorem rowF_stay {σ : St} {t : Nat} {p : Int} {o : Nat} (h : p < cntA σ t o) : ∀ d : Nat, rowF σ t p (o + d) = rowF σ t p o
  | 0 => rfl
  | d + 1 => by
    have ih := rowF_stay (σ := σ) (t := t) (p := p) (o := o) h d
    have hm := cntA_mono σ t o d
    show rowF σ t p (o + d + 1) = _
    unfold rowF
    rw [if_neg (by omega)]
    rw [ih]
    cases o with
    | zero => rfl
    | succ o => rfl
def pick (what c u p : Int) : Int := if what = 0 then c else if what = 1 then u else if what = 2 then p else -2
noncomputable def rsnF (σ : St) (n m : Nat) (z i what : Int) : Int :=
  if (1 ≤ z ∧ z ≤ n) ∧ 0 ≤ i ∧ (ansF σ n m z.toNat).1 ≠ -1 then
    (if i = 0 then pick what 0 (((ansF σ n m z.toNat).2.1 + 1) * cosT σ z.toNat) 0
    else if i = 1 then pick what 0 (blk σ n z.toNat) 0
    else if rowF σ z.toNat (i - 2) n ≠ 0 then pick what (actT σ (rowF σ z.toNat (i - 2) n) (ansF σ n m z.toNat).2.2) (actT σ (rowF σ z.toNat (i - 2) n) (ansF σ n m z.toNat).2.2 * cosT σ (rowF σ z.toNat (i - 2) n)) (rowF σ z.toNat (i - 2) n)
    else if i - 2 - cntA σ z.toNat n < m then pick what (upw (ansF σ n m z.toNat).2.2 (σ 13 ((i - 2 - cntA σ z.toNat n).toNat + 1))) (upw (ansF σ n m z.toNat).2.2 (σ 13 ((i - 2 - cntA σ z.toNat n).toNat + 1)) * σ 12 ((i - 2 - cntA σ z.toNat n).toNat + 1)) (-(i - 2 - cntA σ z.toNat n) - 1)
    else -1)
  else -1
set_option maxRecDepth 100000 in
set_option maxHeartbeats 4000000 in
theorem c6_reason {l : Launch} {G : Gt} {B : Nat} {h : hF} {b : Nat} {A9 : Nat → Nat} {σ : St} {n m : Nat} {sp tu th : Int} (hM : Mo G h b A9 σ n m sp tu th) (hO : OK n m σ) {z : Int} (hz : -2147483648 ≤ z ∧ z < 2147483648) {i : Int} (hi9 : -2147483648 ≤ i ∧ i < 2147483648) {what : Int} (hwhat9 : -2147483648 ≤ what ∧ what < 2147483648) : Ct l G B yX6_reason cX6_reason 14 (some .int) 4 0 0 [.ref b, .int (iZ z), .int (iZ i), .int (iZ what)] h (fun v h' => v = .int (iZ (rsnF σ n m z i what)) ∧ ∃ sp2 tu2 : Int, Mo G h' b A9 σ n m sp2 tu2 0 ∧ Fm h h' b A9) := by
  refine Ct.of (by decide) (Nat.le_of_ble_eq_true rfl) ?_
  intro p e s m9 below meth c A hX hR hin
  have hn16 := hO.1
  have hm8 := hO.2.1
  have h_M := hM.1
  refine J_abs (J0 := J p l e _ s m9 _ below meth c _ _ G A) ?_
  intro JX hji hjo
  have lf : ∀ (c9 u9 p9 sp1 tu1 : Int) (h1 : hF), (0 ≤ c9 ∧ c9 ≤ 1000000000) → (0 ≤ u9 ∧ u9 ≤ 1000000000) → (-1000 ≤ p9 ∧ p9 ≤ 1000) → rsnF σ n m z i what = pick what c9 u9 p9 → Mo G h1 b A9 σ n m sp1 tu1 0 → Fm h h1 b A9 → JX 0 0 228 [(3, .int (iZ what)), (6, .long (lZ c9)), (8, .long (lZ u9)), (10, .int (iZ p9))] [] h1 := by
    intro c9 u9 p9 sp1 tu1 h1 hc9 hu9 hp9 hs hM1 hFm
    refine hji ?_
    refine j_iload_n hX dX6_reason_228 rfl ?_
    refine j_if_ne hX 238 dX6_reason_229 (by decide) (by omega) (fun c229 => ?_) (fun c229 => ?_)
    · refine j_iload_n hX dX6_reason_238 rfl ?_
      refine j_iconst hX dX6_reason_239 ?_
      refine j_icmp_ne hX 249 dX6_reason_240 (by decide) (by omega) (by omega) (fun c240 => ?_) (fun c240 => ?_)
      · refine j_iload_n hX dX6_reason_249 rfl ?_
        refine j_iconst hX dX6_reason_250 ?_
        refine j_icmp_ne hX 259 dX6_reason_251 (by decide) (by omega) (by omega) (fun c251 => ?_) (fun c251 => ?_)
        · refine j_bipush hX dX6_reason_259 (by decide) ?_
          exact j_iret hX hR dX6_reason_261 ⟨by rw [hs]; unfold pick; (repeat' split) <;> first | rfl | (exfalso; omega), sp1, tu1, hM1, hFm⟩
        · refine j_iload hX dX6_reason_254 rfl ?_
          refine j_goto hX 261 dX6_reason_256 (by decide) ?_
          exact j_iret hX hR dX6_reason_261 ⟨by rw [hs]; unfold pick; (repeat' split) <;> first | rfl | (exfalso; omega), sp1, tu1, hM1, hFm⟩
      · refine j_lload hX dX6_reason_243 rfl ?_
        refine j_l2i hX dX6_reason_245 (by omega) ?_
        refine j_goto hX 261 dX6_reason_246 (by decide) ?_
        exact j_iret hX hR dX6_reason_261 ⟨by rw [hs]; unfold pick; (repeat' split) <;> first | rfl | (exfalso; omega), sp1, tu1, hM1, hFm⟩
    · refine j_lload hX dX6_reason_232 rfl ?_
      refine j_l2i hX dX6_reason_234 (by omega) ?_
      refine j_goto hX 261 dX6_reason_235 (by decide) ?_
      exact j_iret hX hR dX6_reason_261 ⟨by rw [hs]; unfold pick; (repeat' split) <;> first | rfl | (exfalso; omega), sp1, tu1, hM1, hFm⟩
  have lp : ∀ (t : Nat), 1 ≤ t ∧ t ≤ n → z = (t : Int) → 0 ≤ i → i ≠ 0 → i ≠ 1 → (ansF σ n m t).1 ≠ -1 → ∀ (d o fo : Nat) (be sp1 tu1 : Int) (h1 : hF), d + o = n + 1 → 1 ≤ o → fo = rowF σ t (i - 2) (o - 1) → be = i - 2 - cntA σ t (o - 1) → Mo G h1 b A9 σ n m sp1 tu1 0 → Fm h h1 b A9 → JX 0 0 92 [(0, .ref b), (1, .int (iZ (t : Int))), (2, .int (iZ i)), (3, .int (iZ what)), (4, .long (lZ (ansF σ n m t).2.2)), (6, .long (lZ 0)), (8, .long (lZ 0)), (10, .int (iZ 0)), (11, .int (iZ be)), (12, .int (iZ ((fo : Nat) : Int))), (13, .int (iZ ((o : Nat) : Int)))] [] h1 := by
    intro t ht hzt hi0 hi1 hi2 hans
    have hAB : (0 ≤ (ansF σ n m t).2.1 ∧ (ansF σ n m t).2.1 < 500) ∧ (1 ≤ (ansF σ n m t).2.2 ∧ (ansF σ n m t).2.2 ≤ 40000) := by rcases ansF_b σ n m t with z9 | z9; exact absurd z9 hans; exact z9.2
    generalize hW9 : (ansF σ n m t).2.2 = w9 at hAB ⊢
    intro d
    induction d with
    | zero =>
      intro o fo be sp1 tu1 h1 hd ho hfo hbe hM1 hFm
      obtain rfl : o = n + 1 := by omega
      rw [show n + 1 - 1 = n by omega] at hfo hbe
      have hrl := rowF_le σ t (i - 2) n
      have hcb := cntA_b σ t n
      have hzn : z.toNat = t := by rw [hzt]; rfl
      have h_M := hM1.1
      have h_a12 := hM1.a12
      have h_a13 := hM1.a13
      refine hji ?_
      refine j_iload hX dX6_reason_92 rfl ?_
      refine j_aload_n hX dX6_reason_94 rfl ?_
      refine j_get hX fl_X6_67_8 dX6_reason_95 h_M (by rfl) ?_
      refine j_icmp_gt hX 144 dX6_reason_98 (by decide) (by omega) (by omega) (fun c98 => ?_) (fun c98 => absurd c98 (by omega))
      refine j_iload hX dX6_reason_144 rfl ?_
      refine j_if_le hX 177 dX6_reason_146 (by decide) (by omega) (fun c146 => ?_) (fun c146 => ?_)
      · refine j_iload hX dX6_reason_177 rfl ?_
        refine j_aload_n hX dX6_reason_179 rfl ?_
        refine j_get hX fl_X6_90_8 dX6_reason_180 h_M (by rfl) ?_
        refine j_icmp_ge hX 226 dX6_reason_183 (by decide) (by omega) (by omega) (fun c183 => ?_) (fun c183 => ?_)
        · refine j_iconst hX dX6_reason_226 ?_
          exact j_iret hX hR dX6_reason_227 ⟨by rw [rsnF, hzn, if_pos ⟨by omega, hi0, hans⟩, if_neg hi1, if_neg hi2, hW9, ← hfo, if_neg (by omega), ← hbe, if_neg (by omega)], sp1, tu1, hM1, hFm⟩
        · have hb0 : 0 ≤ be := by
            rcases Int.lt_or_le (i - 2) (cntA σ t n) with z9 | z9
            · exact absurd (rowF_has (σ := σ) (t := t) (p := i - 2) n (by omega) z9) (by omega)
            · omega
          obtain ⟨k9, hk9⟩ : ∃ k9 : Nat, be.toNat = k9 := ⟨_, rfl⟩
          obtain ⟨i0, i1⟩ := hO.2.2.2 (be.toNat + 1) (by omega) (by omega)
          have hu := upw_b (d := w9) (D := 40000) (b := σ 13 (be.toNat + 1)) (by omega) i1.1
          have hmu := mulb hu (show 0 ≤ σ 12 (be.toNat + 1) ∧ σ 12 (be.toNat + 1) ≤ 1000 by omega)
          refine j_lload hX dX6_reason_186 rfl ?_
          refine j_aload_n hX dX6_reason_188 rfl ?_
          refine j_get hX fl_X6_47_8 dX6_reason_189 h_M (by rfl) ?_
          refine j_iload hX dX6_reason_192 rfl ?_
          refine j_iconst hX dX6_reason_194 ?_
          refine j_iadd hX dX6_reason_195 ?_
          refine j_laldN hX (be.toNat + 1) (by omega) dX6_reason_196 h_a13 (by omega) (by decide) ?_
          refine j_callS hX cs_X6_93 (c6_upwards (by omega) (by omega)) dX6_reason_197 rfl (by exact ⟨Nat.le_of_ble_eq_true rfl, Nat.le_of_ble_eq_true rfl⟩) (by exact ⟨Nat.le_of_ble_eq_true rfl, Nat.le_of_ble_eq_true rfl⟩) (by exact Nat.le_of_ble_eq_true rfl) (fun v197 h197 hp197 => ?_) rfl
          obtain ⟨rfl, rfl⟩ := hp197
          refine j_lstore hX dX6_reason_200 (by decide) ?_
          refine j_lload hX dX6_reason_202 rfl ?_
          refine j_aload_n hX dX6_reason_204 rfl ?_
          refine j_get hX fl_X6_44_8 dX6_reason_205 h_M (by rfl) ?_
          refine j_iload hX dX6_reason_208 rfl ?_
          refine j_iconst hX dX6_reason_210 ?_
          refine j_iadd hX dX6_reason_211 ?_
          refine j_laldN hX (be.toNat + 1) (by omega) dX6_reason_212 h_a12 (by omega) (by decide) ?_
          refine j_lmul hX dX6_reason_213 ?_
          refine j_lstore hX dX6_reason_214 (by decide) ?_
          refine j_iload hX dX6_reason_216 rfl ?_
          refine j_ineg hX dX6_reason_218 ?_
          refine j_iconst hX dX6_reason_219 ?_
          refine j_isub hX dX6_reason_220 ?_
          refine j_istore hX dX6_reason_221 (by decide) ?_
          refine j_goto hX 228 dX6_reason_223 (by decide) ?_
          exact j_at (L' := [(3, .int (iZ what)), (6, .long (lZ _)), (8, .long (lZ _)), (10, .int (iZ _))]) (hjo (lf _ _ _ sp1 tu1 h1 (by omega) (by omega) (by omega) (by rw [rsnF, hzn, if_pos ⟨by omega, hi0, hans⟩, if_neg hi1, if_neg hi2, hW9, ← hfo, if_neg (by omega), ← hbe, if_pos (by omega)]) hM1 hFm)) ⟨rfl, rfl, rfl, rfl, trivial⟩
      · obtain ⟨a0, a1, a2, a3, a4, a5, a6, a7, a8, a9⟩ := hO.2.2.1 fo (by omega) (by omega)
        have hu : 0 ≤ actT σ fo w9 ∧ actT σ fo w9 ≤ 40000 := acts_b a5.1 a4 a3 a1.1 (by omega)
        have hmu := mulb hu (show 0 ≤ cosT σ fo ∧ cosT σ fo ≤ 2000 by unfold cosT; omega)
        refine j_aload_n hX dX6_reason_149 rfl ?_
        refine j_iload hX dX6_reason_150 rfl ?_
        refine j_lload hX dX6_reason_152 rfl ?_
        refine j_callV hX cv_X6_105 (c6_comes hM1 ⟨by omega, by omega⟩ hO (by omega)) dX6_reason_154 h_M rfl rfl (by exact ⟨Nat.le_of_ble_eq_true rfl, Nat.le_of_ble_eq_true rfl⟩) (by exact ⟨Nat.le_of_ble_eq_true rfl, Nat.le_of_ble_eq_true rfl⟩) (by exact Nat.le_of_ble_eq_true rfl) (fun v154 h154 hp154 => ?_) rfl
        obtain ⟨rfl, rfl⟩ := hp154
        refine j_lstore hX dX6_reason_157 (by decide) ?_
        refine j_lload hX dX6_reason_159 rfl ?_
        refine j_aload_n hX dX6_reason_161 rfl ?_
        refine j_iload hX dX6_reason_162 rfl ?_
        refine j_callV hX cv_X6_101 (c6_cost hM1 ⟨by omega, by omega⟩ hO) dX6_reason_164 h_M rfl rfl (by exact ⟨Nat.le_of_ble_eq_true rfl, Nat.le_of_ble_eq_true rfl⟩) (by exact ⟨Nat.le_of_ble_eq_true rfl, Nat.le_of_ble_eq_true rfl⟩) (by exact Nat.le_of_ble_eq_true rfl) (fun v164 h164 hp164 => ?_) rfl
        obtain ⟨rfl, rfl⟩ := hp164
        refine j_lmul hX dX6_reason_167 ?_
        refine j_lstore hX dX6_reason_168 (by decide) ?_
        refine j_iload hX dX6_reason_170 rfl ?_
        refine j_istore hX dX6_reason_172 (by decide) ?_
        refine j_goto hX 228 dX6_reason_174 (by decide) ?_
        exact j_at (L' := [(3, .int (iZ what)), (6, .long (lZ _)), (8, .long (lZ _)), (10, .int (iZ _))]) (hjo (lf _ _ _ sp1 tu1 h1 (by omega) (by omega) (by omega) (by rw [rsnF, hzn, if_pos ⟨by omega, hi0, hans⟩, if_neg hi1, if_neg hi2, hW9, ← hfo, if_pos (by omega)]) hM1 hFm)) ⟨rfl, rfl, rfl, rfl, trivial⟩
    | succ d ih =>
      intro o fo be sp1 tu1 h1 hd ho hfo hbe hM1 hFm
      obtain ⟨o1, rfl⟩ : ∃ o1, o = o1 + 1 := ⟨o - 1, by omega⟩
      rw [show o1 + 1 - 1 = o1 by omega] at hfo hbe
      have hcb := cntA_b σ t o1
      obtain ⟨-, -, a2, -⟩ := hO.2.2.1 (o1 + 1) (by omega) (by omega)
      obtain ⟨-, -, b2, -⟩ := hO.2.2.1 t ht.1 ht.2
      have h_M := hM1.1
      have h_a2 := hM1.a2
      refine hji ?_
      refine j_iload hX dX6_reason_92 rfl ?_
      refine j_aload_n hX dX6_reason_94 rfl ?_
      refine j_get hX fl_X6_67_8 dX6_reason_95 h_M (by rfl) ?_
      refine j_icmp_gt hX 144 dX6_reason_98 (by decide) (by omega) (by omega) (fun c98 => absurd c98 (by omega)) (fun c98 => ?_)
      refine j_iload hX dX6_reason_101 rfl ?_
      refine j_iload_n hX dX6_reason_103 rfl ?_
      refine j_icmp_eq hX 138 dX6_reason_104 (by decide) (by omega) (by omega) (fun c104 => ?_) (fun c104 => ?_)
      · refine j_iinc hX dX6_reason_138 rfl (by decide) ?_
        refine j_goto hX 92 dX6_reason_141 (by decide) ?_
        exact j_at (L' := [(0, .ref b), (1, .int (iZ (t : Int))), (2, .int (iZ i)), (3, .int (iZ what)), (4, .long (lZ w9)), (6, .long (lZ 0)), (8, .long (lZ 0)), (10, .int (iZ 0)), (11, .int (iZ _)), (12, .int (iZ ((_ : Nat) : Int))), (13, .int (iZ (((o1 + 1 + 1) : Nat) : Int)))]) (hjo (ih (o1 + 1 + 1) _ _ _ _ _ (by omega) (by omega) (by show _ = rowF σ t (i - 2) (o1 + 1); unfold rowF; rw [if_neg (fun z9 => z9.1.1 (by omega))]; exact hfo) (by show _ = i - 2 - cntA σ t (o1 + 1); unfold cntA; rw [if_neg (fun z9 => z9.1 (by omega))]; omega) hM1 hFm)) ⟨rfl, rfl, rfl, rfl, rfl, rfl, rfl, rfl, rfl, rfl, rfl, trivial⟩
      · refine j_aload_n hX dX6_reason_107 rfl ?_
        refine j_get hX fl_X6_16_8 dX6_reason_108 h_M (by rfl) ?_
        refine j_iload hX dX6_reason_111 rfl ?_
        refine j_ialdN hX _ rfl dX6_reason_113 h_a2 (by omega) (by decide) ?_
        refine j_aload_n hX dX6_reason_114 rfl ?_
        refine j_get hX fl_X6_16_8 dX6_reason_115 h_M (by rfl) ?_
        refine j_iload_n hX dX6_reason_118 rfl ?_
        refine j_ialdN hX _ rfl dX6_reason_119 h_a2 (by omega) (by decide) ?_
        refine j_icmp_ge hX 126 dX6_reason_120 (by decide) (by omega) (by omega) (fun c120 => ?_) (fun c120 => ?_)
        · refine j_iload hX dX6_reason_126 rfl ?_
          refine j_if_ne hX 135 dX6_reason_128 (by decide) (by omega) (fun c128 => ?_) (fun c128 => ?_)
          · refine j_iinc hX dX6_reason_135 rfl (by decide) ?_
            refine j_iinc hX dX6_reason_138 rfl (by decide) ?_
            refine j_goto hX 92 dX6_reason_141 (by decide) ?_
            exact j_at (L' := [(0, .ref b), (1, .int (iZ (t : Int))), (2, .int (iZ i)), (3, .int (iZ what)), (4, .long (lZ w9)), (6, .long (lZ 0)), (8, .long (lZ 0)), (10, .int (iZ 0)), (11, .int (iZ _)), (12, .int (iZ ((_ : Nat) : Int))), (13, .int (iZ (((o1 + 1 + 1) : Nat) : Int)))]) (hjo (ih (o1 + 1 + 1) _ _ _ _ _ (by omega) (by omega) (by show _ = rowF σ t (i - 2) (o1 + 1); unfold rowF; rw [if_neg (fun z9 => by omega)]; exact hfo) (by show _ = i - 2 - cntA σ t (o1 + 1); unfold cntA; rw [if_pos ⟨by omega, by omega⟩]; omega) hM1 hFm)) ⟨rfl, rfl, rfl, rfl, rfl, rfl, rfl, rfl, rfl, rfl, rfl, trivial⟩
          · refine j_iload hX dX6_reason_131 rfl ?_
            refine j_istore hX dX6_reason_133 (by decide) ?_
            refine j_iinc hX dX6_reason_135 rfl (by decide) ?_
            refine j_iinc hX dX6_reason_138 rfl (by decide) ?_
            refine j_goto hX 92 dX6_reason_141 (by decide) ?_
            exact j_at (L' := [(0, .ref b), (1, .int (iZ (t : Int))), (2, .int (iZ i)), (3, .int (iZ what)), (4, .long (lZ w9)), (6, .long (lZ 0)), (8, .long (lZ 0)), (10, .int (iZ 0)), (11, .int (iZ _)), (12, .int (iZ ((_ : Nat) : Int))), (13, .int (iZ (((o1 + 1 + 1) : Nat) : Int)))]) (hjo (ih (o1 + 1 + 1) _ _ _ _ _ (by omega) (by omega) (by show _ = rowF σ t (i - 2) (o1 + 1); unfold rowF; rw [if_pos ⟨⟨by omega, by omega⟩, by omega⟩]) (by show _ = i - 2 - cntA σ t (o1 + 1); unfold cntA; rw [if_pos ⟨by omega, by omega⟩]; omega) hM1 hFm)) ⟨rfl, rfl, rfl, rfl, rfl, rfl, rfl, rfl, rfl, rfl, rfl, trivial⟩
        · refine j_goto hX 138 dX6_reason_123 (by decide) ?_
          refine j_iinc hX dX6_reason_138 rfl (by decide) ?_
          refine j_goto hX 92 dX6_reason_141 (by decide) ?_
          exact j_at (L' := [(0, .ref b), (1, .int (iZ (t : Int))), (2, .int (iZ i)), (3, .int (iZ what)), (4, .long (lZ w9)), (6, .long (lZ 0)), (8, .long (lZ 0)), (10, .int (iZ 0)), (11, .int (iZ _)), (12, .int (iZ ((_ : Nat) : Int))), (13, .int (iZ (((o1 + 1 + 1) : Nat) : Int)))]) (hjo (ih (o1 + 1 + 1) _ _ _ _ _ (by omega) (by omega) (by show _ = rowF σ t (i - 2) (o1 + 1); unfold rowF; rw [if_neg (fun z9 => by omega)]; exact hfo) (by show _ = i - 2 - cntA σ t (o1 + 1); unfold cntA; rw [if_neg (fun z9 => by omega)]; omega) hM1 hFm)) ⟨rfl, rfl, rfl, rfl, rfl, rfl, rfl, rfl, rfl, rfl, rfl, trivial⟩
  refine hji ?_
  refine j_aload_n hX dX6_reason_0 rfl ?_
  refine j_iconst hX dX6_reason_1 ?_
  refine j_putE hX fp_X6_63_8 dX6_reason_2 h_M rfl rfl (Nat.le_of_ble_eq_true rfl) (fs2 := (MF A9 n m sp tu 0)) rfl ?_
  have hM0 := hM.fld (n' := n) (m' := m) (sp' := sp) (tu' := tu) (th' := 0)
  have h_M := hM0.1
  have hF0 : Fm h _ b A9 := (Fm.rf h b A9).b (.inr (8, MF A9 n m sp tu 0))
  refine j_aload_n hX dX6_reason_5 rfl ?_
  refine j_iload_n hX dX6_reason_6 rfl ?_
  refine j_callV hX cv_X6_82 (c6_isTaskF hM0 (by omega) (by omega)) dX6_reason_7 h_M rfl rfl (by exact ⟨Nat.le_of_ble_eq_true rfl, Nat.le_of_ble_eq_true rfl⟩) (by exact ⟨Nat.le_of_ble_eq_true rfl, Nat.le_of_ble_eq_true rfl⟩) (by exact Nat.le_of_ble_eq_true rfl) (fun v7 h7 hp7 => ?_) rfl
  obtain ⟨⟨y7, rfl, hy7⟩, rfl⟩ := hp7
  refine j_if_eq hX 27 dX6_reason_10 (by decide) (by omega) (fun c10 => ?_) (fun c10 => ?_)
  · refine j_iconst hX dX6_reason_27 ?_
    exact j_iret hX hR dX6_reason_28 ⟨by rw [rsnF, if_neg (by omega)], _, _, hM0, hF0⟩
  · obtain ⟨t, rfl⟩ : ∃ t : Nat, z = (t : Int) := ⟨z.toNat, by omega⟩
    refine j_iload_n hX dX6_reason_13 rfl ?_
    refine j_if_lt hX 27 dX6_reason_14 (by decide) (by omega) (fun c14 => ?_) (fun c14 => ?_)
    · refine j_iconst hX dX6_reason_27 ?_
      exact j_iret hX hR dX6_reason_28 ⟨by rw [rsnF, if_neg (by omega)], _, _, hM0, hF0⟩
    · refine j_aload_n hX dX6_reason_17 rfl ?_
      refine j_iload_n hX dX6_reason_18 rfl ?_
      refine j_callV hX cv_X6_129 (c6_search hM0 ⟨by omega, by omega⟩ hO) dX6_reason_19 h_M rfl rfl (by exact ⟨Nat.le_of_ble_eq_true rfl, Nat.le_of_ble_eq_true rfl⟩) (by exact ⟨Nat.le_of_ble_eq_true rfl, Nat.le_of_ble_eq_true rfl⟩) (by exact Nat.le_of_ble_eq_true rfl) (fun v19 h19 hp19 => ?_) rfl
      obtain ⟨rfl, sp2, tu2, hM2, hF2, hres⟩ := hp19
      have hab := ans_b hO (t := t) ⟨by omega, by omega⟩
      have h_M := hM2.1
      have htn : (t : Int).toNat = t := rfl
      refine j_lconst0 hX dX6_reason_22 ?_
      refine j_lcmp_ge hX 29 dX6_reason_23 dX6_reason_24 (by decide) (by omega) (by omega) (fun c23 => ?_) (fun c23 => ?_)
      · have hans : (ansF σ n m t).1 ≠ -1 := by omega
        obtain ⟨rfl, rfl⟩ := hres hans
        have hAB : (0 ≤ (ansF σ n m t).2.1 ∧ (ansF σ n m t).2.1 < 500) ∧ (1 ≤ (ansF σ n m t).2.2 ∧ (ansF σ n m t).2.2 ≤ 40000) := by rcases ansF_b σ n m t with z9 | z9; exact absurd z9 hans; exact z9.2
        have hbb := blk_b (t := t) hO
        obtain ⟨a0, a1, a2, a3, a4, a5, a6, a7, a8, a9⟩ := hO.2.2.1 t (by omega) (by omega)
        have hcc : 0 ≤ cosT σ t ∧ cosT σ t ≤ 2000 := by unfold cosT; omega
        have hmu := mulb (a := (ansF σ n m t).2.1 + 1) (A := 500) (by omega) hcc
        refine j_aload_n hX dX6_reason_29 rfl ?_
        refine j_get hX fl_X6_122_8 dX6_reason_30 h_M (by rfl) ?_
        refine j_lstore hX dX6_reason_33 (by decide) ?_
        refine j_lconst0 hX dX6_reason_35 ?_
        refine j_lstore hX dX6_reason_36 (by decide) ?_
        refine j_lconst0 hX dX6_reason_38 ?_
        refine j_lstore hX dX6_reason_39 (by decide) ?_
        refine j_iconst hX dX6_reason_41 ?_
        refine j_istore hX dX6_reason_42 (by decide) ?_
        refine j_iload_n hX dX6_reason_44 rfl ?_
        refine j_if_ne hX 66 dX6_reason_45 (by decide) (by omega) (fun c45 => ?_) (fun c45 => ?_)
        · refine j_iload_n hX dX6_reason_66 rfl ?_
          refine j_iconst hX dX6_reason_67 ?_
          refine j_icmp_ne hX 81 dX6_reason_68 (by decide) (by omega) (by omega) (fun c68 => ?_) (fun c68 => ?_)
          · refine j_iload_n hX dX6_reason_81 rfl ?_
            refine j_iconst hX dX6_reason_82 ?_
            refine j_isub hX dX6_reason_83 ?_
            refine j_istore hX dX6_reason_84 (by decide) ?_
            refine j_iconst hX dX6_reason_86 ?_
            refine j_istore hX dX6_reason_87 (by decide) ?_
            refine j_iconst hX dX6_reason_89 ?_
            refine j_istore hX dX6_reason_90 (by decide) ?_
            exact j_at (L' := [(0, .ref b), (1, .int (iZ (t : Int))), (2, .int (iZ i)), (3, .int (iZ what)), (4, .long (lZ (ansF σ n m t).2.2)), (6, .long (lZ 0)), (8, .long (lZ 0)), (10, .int (iZ 0)), (11, .int (iZ _)), (12, .int (iZ ((0 : Nat) : Int))), (13, .int (iZ ((1 : Nat) : Int)))]) (hjo (lp t ⟨by omega, by omega⟩ rfl (by omega) (by omega) (by omega) hans n 1 0 _ _ _ _ (by omega) (by omega) rfl (by show _ = i - 2 - 0; omega) hM2 (hF0.tr hF2))) ⟨rfl, rfl, rfl, rfl, rfl, rfl, rfl, rfl, rfl, rfl, rfl, trivial⟩
          · refine j_aload_n hX dX6_reason_71 rfl ?_
            refine j_iload_n hX dX6_reason_72 rfl ?_
            refine j_callV hX cv_X6_109 (c6_blocking hM2 ⟨by omega, by omega⟩ hO) dX6_reason_73 h_M rfl rfl (by exact ⟨Nat.le_of_ble_eq_true rfl, Nat.le_of_ble_eq_true rfl⟩) (by exact ⟨Nat.le_of_ble_eq_true rfl, Nat.le_of_ble_eq_true rfl⟩) (by exact Nat.le_of_ble_eq_true rfl) (fun v73 h73 hp73 => ?_) rfl
            obtain ⟨rfl, rfl⟩ := hp73
            refine j_lstore hX dX6_reason_76 (by decide) ?_
            refine j_goto hX 228 dX6_reason_78 (by decide) ?_
            exact j_at (L' := [(3, .int (iZ what)), (6, .long (lZ _)), (8, .long (lZ _)), (10, .int (iZ _))]) (hjo (lf _ _ _ _ _ _ (by omega) (by omega) (by omega) (by rw [rsnF, if_pos ⟨by omega, by omega, hans⟩, if_neg (by omega), if_pos (by omega)]; rfl) hM2 (hF0.tr hF2))) ⟨rfl, rfl, rfl, rfl, trivial⟩
        · refine j_aload_n hX dX6_reason_48 rfl ?_
          refine j_get hX fl_X6_126_8 dX6_reason_49 h_M (by rfl) ?_
          refine j_iconst hX dX6_reason_52 ?_
          refine j_iadd hX dX6_reason_53 ?_
          refine j_i2l hX dX6_reason_54 (by omega) ?_
          refine j_aload_n hX dX6_reason_55 rfl ?_
          refine j_iload_n hX dX6_reason_56 rfl ?_
          refine j_callV hX cv_X6_101 (c6_cost hM2 ⟨by omega, by omega⟩ hO) dX6_reason_57 h_M rfl rfl (by exact ⟨Nat.le_of_ble_eq_true rfl, Nat.le_of_ble_eq_true rfl⟩) (by exact ⟨Nat.le_of_ble_eq_true rfl, Nat.le_of_ble_eq_true rfl⟩) (by exact Nat.le_of_ble_eq_true rfl) (fun v57 h57 hp57 => ?_) rfl
          obtain ⟨rfl, rfl⟩ := hp57
          refine j_lmul hX dX6_reason_60 ?_
          refine j_lstore hX dX6_reason_61 (by decide) ?_
          refine j_goto hX 228 dX6_reason_63 (by decide) ?_
          exact j_at (L' := [(3, .int (iZ what)), (6, .long (lZ _)), (8, .long (lZ _)), (10, .int (iZ _))]) (hjo (lf _ _ _ _ _ _ (by omega) (by omega) (by omega) (by rw [rsnF, if_pos ⟨by omega, by omega, hans⟩, if_pos (by omega)]; rfl) hM2 (hF0.tr hF2))) ⟨rfl, rfl, rfl, rfl, trivial⟩
      · refine j_iconst hX dX6_reason_27 ?_
        exact j_iret hX hR dX6_reason_28 ⟨by rw [rsnF, if_neg (by rw [htn]; omega)], sp2, tu2, hM2, hF0.tr hF2⟩
