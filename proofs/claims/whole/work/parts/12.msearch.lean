/-! THE REFERENCE: search, answer, allAnswer, load, busy, longer -/
section JE
variable {p : Program} {l : Launch} {e : Env} {R : Room} {s : State} {m : MethodId} {args : Array Value} {below : List Frame} {meth : Method} {c : Code} {Q : State → Prop} {nL : Nat} {G : Gt} {A : Nat → Prop} {cells slots pc : Nat} {L : List (Nat × Value)} {st : List Value} {h : hF} {cc : ByteArray} {own : String} {B : Nat}
theorem j_putE (hX : CX p s m args c cc nL own G B A) {i ci k a : Nat} {ty : FieldType} (hF : FP own i ci k ty) (hdg : decode cc pc = .ok (.putfield i, 3)) {fs fs2 : List Value} {v : Value} (ha : h a = some (.inr (ci, fs))) (hn : narrow ty v = v) (hfit : fits ty v = true) (hk : k < fs.length) (he : fs.set k v = fs2) (kk : J p l e R s m args below meth c Q nL G A cells slots (pc + 3) L st (hup h a (.inr (ci, fs2)))) : J p l e R s m args below meth c Q nL G A cells slots pc L (v :: .ref a :: st) h := by
  subst he
  exact j_put hX hF hdg ha hn hfit hk kk
theorem j_putFE (hX : CX p s m args c cc nL own G B A) {i ci k a : Nat} {ty : FieldType} (hF : FF own i ci k ty) (hin2 : meth.name = "<init>") (hdg : decode cc pc = .ok (.putfield i, 3)) {fs fs2 : List Value} {v : Value} (ha : h a = some (.inr (ci, fs))) (hn : narrow ty v = v) (hfit : fits ty v = true) (hk : k < fs.length) (he : fs.set k v = fs2) (kk : J p l e R s m args below meth c Q nL G A cells slots (pc + 3) L st (hup h a (.inr (ci, fs2)))) : J p l e R s m args below meth c Q nL G A cells slots pc L (v :: .ref a :: st) h := by
  subst he
  exact j_putF hX hF hin2 hdg ha hn hfit hk kk
end JE
def LEp (f : Int → Int) (w : Int) : Prop := ∀ v, 1 ≤ v → f v ≤ v → w ≤ v
theorem spn_cases (f : Int → Int) : (isL f (spn f) ∧ spn f ≤ 40000) ∨ (spn f = 0 ∧ ∀ v, 1 ≤ v → v ≤ 40000 → ¬ f v ≤ v) := by
  by_cases h : ∃ w, isL f w ∧ w ≤ 40000
  · obtain ⟨w, h1, h2⟩ := h
    rw [spn_some h1 h2]
    exact Or.inl ⟨h1, h2⟩
  · have h9 : ∀ k : Nat, ∀ v : Int, 1 ≤ v → v ≤ (k : Int) → k ≤ 40000 → ¬ f v ≤ v := by
      intro k
      induction k with
      | zero => intro v h1 h2 _; omega
      | succ k ih =>
        intro v h1 h2 h3 h4
        by_cases e : v ≤ (k : Int)
        · exact ih v h1 e (by omega) h4
        · exact h ⟨v, ⟨h1, h4, fun u u1 u2 => by
            by_cases e2 : u ≤ (k : Int)
            · exact absurd u2 (ih u u1 e2 (by omega))
            · omega⟩, by omega⟩
    have h8 : ∀ v, 1 ≤ v → v ≤ 40000 → ¬ f v ≤ v := fun v h1 h2 => h9 40000 v h1 h2 (Nat.le_refl _)
    exact Or.inr ⟨spn_none h8, h8⟩
theorem latT_0 {σ : St} {n m t : Nat} (hO : OK n m σ) (ht : 1 ≤ t ∧ t ≤ n) : latT σ t 0 = 0 := late_0 (hO.2.2.1 t ht.1 ht.2).2.2.2.1.1
theorem srch_start {σ : St} {n m t : Nat} (hO : OK n m σ) (ht : 1 ≤ t ∧ t ≤ n) {B best tu sp : Int} {k : Nat} (hb : best ≤ 0) : srch σ n m t B (k + 1) 0 best tu sp = srch σ n m t B (k + 1) 0 (-1) 0 0 := by
  unfold srch
  rw [latT_0 hO ht]
  rcases spn_cases (nee σ n m t B 0) with ⟨h1, h2⟩ | ⟨h1, -⟩
  · have := h1.1
    have z0 : ¬ spn (nee σ n m t B 0) = 0 := by omega
    have z1 : best < spn (nee σ n m t B 0) - 0 := by omega
    have z2 : -1 < spn (nee σ n m t B 0) - 0 := by omega
    rw [if_neg z0, if_neg z0, if_pos z1, if_pos z1, if_pos z2, if_pos z2]
  · rw [if_pos h1, if_pos h1]
theorem srch_b {σ : St} {n m t : Nat} {B : Int} : ∀ (k : Nat) (q best tu sp : Int), 0 ≤ q → q + k = 500 → (best = -1 ∨ (0 ≤ best ∧ (0 ≤ tu ∧ tu < 500) ∧ (1 ≤ sp ∧ sp ≤ 40000))) → (srch σ n m t B k q best tu sp).1 = -1 ∨ ((0 ≤ (srch σ n m t B k q best tu sp).1 ∧ (srch σ n m t B k q best tu sp).1 ≤ σ 1 t) ∧ (0 ≤ (srch σ n m t B k q best tu sp).2.1 ∧ (srch σ n m t B k q best tu sp).2.1 < 500) ∧ (1 ≤ (srch σ n m t B k q best tu sp).2.2 ∧ (srch σ n m t B k q best tu sp).2.2 ≤ 40000))
  | 0, _, _, _, _, _, _, _ => Or.inl rfl
  | k + 1, q, best, tu, sp, h0, h1, hb => by
    have hc := spn_cases (nee σ n m t B q)
    unfold srch
    generalize spn (nee σ n m t B q) = w at hc ⊢
    split
    · exact Or.inl rfl
    · rename_i hw0
      have hw : 1 ≤ w ∧ w ≤ 40000 := by
        rcases hc with ⟨c1, c2⟩ | ⟨c1, -⟩
        · exact ⟨c1.1, c2⟩
        · exact absurd c1 hw0
      split
      · split
        · split
          · exact Or.inl rfl
          · refine Or.inr ⟨⟨?_, ?_⟩, ⟨?_, ?_⟩, ⟨?_, ?_⟩⟩ <;> dsimp only <;> omega
        · split
          · exact Or.inl rfl
          · rcases hb with hb | ⟨hb1, hb2, hb3⟩
            · exact Or.inl hb
            · refine Or.inr ⟨⟨?_, ?_⟩, ⟨?_, ?_⟩, ⟨?_, ?_⟩⟩ <;> dsimp only <;> omega
      · split
        · exact srch_b k _ _ _ _ (by omega) (by omega) (Or.inr ⟨by omega, by omega, by omega⟩)
        · exact srch_b k _ _ _ _ (by omega) (by omega) hb
theorem ansF_b (σ : St) (n m t : Nat) : (ansF σ n m t).1 = -1 ∨ ((0 ≤ (ansF σ n m t).1 ∧ (ansF σ n m t).1 ≤ σ 1 t) ∧ (0 ≤ (ansF σ n m t).2.1 ∧ (ansF σ n m t).2.1 < 500) ∧ (1 ≤ (ansF σ n m t).2.2 ∧ (ansF σ n m t).2.2 ≤ 40000)) := srch_b 500 0 (-1) 0 0 (Int.le_refl 0) rfl (Or.inl rfl)
set_option maxRecDepth 100000 in
set_option maxHeartbeats 4000000 in
theorem c6_search {l : Launch} {G : Gt} {B : Nat} {h : hF} {b : Nat} {A9 : Nat → Nat} {σ : St} {n m : Nat} {sp tu th : Int} (hM : Mo G h b A9 σ n m sp tu th) {t : Nat} (ht : 1 ≤ t ∧ t ≤ n) (hO : OK n m σ) : Ct l G B yX6_search cX6_search 11 (some .long) 3 0 0 [.ref b, .int (iZ (t : Int))] h (fun v h' => v = .long (lZ (ansF σ n m t).1) ∧ ∃ sp2 tu2 : Int, Mo G h' b A9 σ n m sp2 tu2 th ∧ Fm h h' b A9 ∧ ((ansF σ n m t).1 ≠ -1 → sp2 = (ansF σ n m t).2.2 ∧ tu2 = (ansF σ n m t).2.1)) := by
  refine Ct.of (by decide) (Nat.le_of_ble_eq_true rfl) ?_
  intro p e s m9 below meth c A hX hR hin
  have hn16 := hO.1
  have hm8 := hO.2.1
  obtain ⟨o0, o1, o2, o3, o4, o5, o6, o7, o8, o9⟩ := hO.2.2.1 t ht.1 ht.2
  have hB := blk_b (t := t) hO
  have h_M := hM.1
  refine J_abs (J0 := J p l e _ s m9 _ below meth c _ _ G A) ?_
  intro JX hji hjo
  have lp : ∀ (k q : Nat) (best ww sp1 tu1 : Int) (h1 : hF), k + q = 500 → Mo G h1 b A9 σ n m sp1 tu1 th → Fm h h1 b A9 → 1 ≤ ww → ww ≤ 40000 → LEp (nee σ n m t (blk σ n t) q) ww → -1 ≤ best → best ≤ 40000 → srch σ n m t (blk σ n t) k q best tu1 sp1 = ansF σ n m t → JX 0 0 17 [(0, .ref b), (1, .int (iZ (t : Int))), (2, .long (lZ best)), (4, .long (lZ (blk σ n t))), (6, .long (lZ ww)), (8, .int (iZ ((q : Nat) : Int)))] [] h1 := by
    intro k
    induction k with
    | zero =>
      intro q best ww sp1 tu1 h1 hk hM1 hFm hw1 hw2 hLE hb1 hb2 hs
      have h_M := hM1.1
      refine hji ?_
      refine j_iload hX dX6_search_17 rfl ?_
      refine j_sipush hX dX6_search_19 (by decide) ?_
      refine j_icmp_ge hX 166 dX6_search_22 (by decide) (by omega) (by omega) (fun c22 => ?_) (fun c22 => absurd c22 (by omega))
      refine j_ldc2 hX k_X6_80 (z := -1) (by decide) dX6_search_166 ?_
      exact j_lret hX hR dX6_search_169 ⟨by rw [← hs]; rfl, sp1, tu1, hM1, hFm, fun z => absurd (by rw [← hs]; rfl) z⟩
    | succ k ih =>
      intro q best ww sp1 tu1 h1 hk hM1 hFm hw1 hw2 hLE hb1 hb2 hs
      have h_M := hM1.1
      have hl1 : 0 ≤ latT σ t q ∧ latT σ t q ≤ 10000000 := late_b o5 o4.1 o3 o1 (by omega)
      have hl2 : 0 ≤ latT σ t ((q : Int) + 1) ∧ latT σ t ((q : Int) + 1) ≤ 10000000 := late_b o5 o4.1 o3 o1 (by omega)
      have lq : ∀ (f : Nat) (ww : Int), 40000 - ww < (f : Int) → 1 ≤ ww → ww ≤ 40000 → LEp (nee σ n m t (blk σ n t) q) ww → JX 0 0 38 [(0, .ref b), (1, .int (iZ (t : Int))), (2, .long (lZ best)), (4, .long (lZ (blk σ n t))), (6, .long (lZ ww)), (8, .int (iZ ((q : Nat) : Int))), (9, .long (lZ (nee σ n m t (blk σ n t) q ww)))] [] h1 := by
        intro f
        induction f with
        | zero => intro ww hf hw1 hw2 hLE; exact absurd hf (by omega)
        | succ f ih2 =>
          intro ww hf hw1 hw2 hLE
          have hnb := nee_b hO ht (B := blk σ n t) (q := q) (w := ww) hB (by omega) (by omega)
          refine hji ?_
          refine j_lload hX dX6_search_38 rfl ?_
          refine j_lload hX dX6_search_40 rfl ?_
          refine j_lcmp_le hX 75 dX6_search_42 dX6_search_43 (by decide) (by omega) (by omega) (fun c42 => ?_) (fun c42 => ?_)
          · refine j_lload hX dX6_search_75 rfl ?_
            refine j_ldc2 hX k_X6_116 (z := 40000) (by decide) dX6_search_77 ?_
            refine j_lcmp_le hX 88 dX6_search_80 dX6_search_81 (by decide) (by omega) (by omega) (fun c80 => ?_) (fun c80 => absurd c80 (by omega))
            have hL : isL (nee σ n m t (blk σ n t) q) ww := ⟨hw1, by omega, hLE⟩
            have hsp := spn_some hL hw2
            unfold srch at hs
            rw [hsp, if_neg (show ¬ ww = 0 by omega)] at hs
            have h_a1 := hM1.a1
            refine j_lload hX dX6_search_88 rfl ?_
            refine j_aload_n hX dX6_search_90 rfl ?_
            refine j_iload_n hX dX6_search_91 rfl ?_
            refine j_iload hX dX6_search_92 rfl ?_
            refine j_callV hX cv_X6_118 (c6_later hM1 ht hO (by omega)) dX6_search_94 h_M rfl rfl (by exact ⟨Nat.le_of_ble_eq_true rfl, Nat.le_of_ble_eq_true rfl⟩) (by exact ⟨Nat.le_of_ble_eq_true rfl, Nat.le_of_ble_eq_true rfl⟩) (by exact Nat.le_of_ble_eq_true rfl) (fun v94 h94 hp94 => ?_) rfl
            obtain ⟨rfl, rfl⟩ := hp94
            refine j_lsub hX dX6_search_97 ?_
            refine j_lload_n hX dX6_search_98 rfl ?_
            refine j_lcmp_le hX 126 dX6_search_99 dX6_search_100 (by decide) (by omega) (by omega) (fun c99 => ?_) (fun c99 => ?_)
            · refine j_lload hX dX6_search_126 rfl ?_
              refine j_aload_n hX dX6_search_128 rfl ?_
              refine j_iload_n hX dX6_search_129 rfl ?_
              refine j_iload hX dX6_search_130 rfl ?_
              refine j_iconst hX dX6_search_132 ?_
              refine j_iadd hX dX6_search_133 ?_
              refine j_callV hX cv_X6_118 (c6_later hM1 ht hO (by omega)) dX6_search_134 h_M rfl rfl (by exact ⟨Nat.le_of_ble_eq_true rfl, Nat.le_of_ble_eq_true rfl⟩) (by exact ⟨Nat.le_of_ble_eq_true rfl, Nat.le_of_ble_eq_true rfl⟩) (by exact Nat.le_of_ble_eq_true rfl) (fun v134 h134 hp134 => ?_) rfl
              obtain ⟨rfl, rfl⟩ := hp134
              refine j_lcmp_gt hX 160 dX6_search_137 dX6_search_138 (by decide) (by omega) (by omega) (fun c137 => ?_) (fun c137 => ?_)
              · refine j_iinc hX dX6_search_160 rfl (by decide) ?_
                refine j_goto hX 17 dX6_search_163 (by decide) ?_
                rw [if_neg (by omega), if_neg (by omega)] at hs
                exact j_at (L' := [(0, .ref b), (1, .int (iZ (t : Int))), (2, .long (lZ _)), (4, .long (lZ (blk σ n t))), (6, .long (lZ _)), (8, .int (iZ (((q + 1) : Nat) : Int)))]) (hjo (ih (q + 1) _ ww _ _ _ (by omega) hM1 hFm hw1 hw2 (fun v v1 v2 => hLE v v1 (by have e := nee_succ (σ := σ) (n := n) (m := m) (t := t) (B := blk σ n t) (q := q) (w := v); have e2 : nee σ n m t (blk σ n t) ((q : Int) + 1) v ≤ v := v2; have e3 : 1 ≤ cosT σ t := (by unfold cosT; omega); omega)) (by omega) (by omega) hs)) ⟨rfl, rfl, rfl, rfl, rfl, rfl, trivial⟩
              · refine j_lload_n hX dX6_search_141 rfl ?_
                refine j_aload_n hX dX6_search_142 rfl ?_
                refine j_get hX fl_X6_13_8 dX6_search_143 h_M (by rfl) ?_
                refine j_iload_n hX dX6_search_146 rfl ?_
                refine j_laldN hX _ rfl dX6_search_147 h_a1 (by omega) (by decide) ?_
                refine j_lcmp_le hX 158 dX6_search_148 dX6_search_149 (by decide) (by omega) (by omega) (fun c148 => ?_) (fun c148 => ?_)
                · refine j_lload_n hX dX6_search_158 rfl ?_
                  rw [if_pos (by omega), if_neg (by omega), if_neg (by omega)] at hs
                  exact j_lret hX hR dX6_search_159 ⟨by rw [← hs], _, _, hM1, hFm, fun _ => by rw [← hs]; exact ⟨rfl, rfl⟩⟩
                · refine j_ldc2 hX k_X6_80 (z := -1) (by decide) dX6_search_152 ?_
                  refine j_goto hX 159 dX6_search_155 (by decide) ?_
                  rw [if_pos (by omega), if_neg (by omega), if_pos (by omega)] at hs
                  exact j_lret hX hR dX6_search_159 ⟨by rw [← hs], _, _, hM1, hFm, fun z => absurd (by rw [← hs]) z⟩
            · refine j_lload hX dX6_search_103 rfl ?_
              refine j_aload_n hX dX6_search_105 rfl ?_
              refine j_iload_n hX dX6_search_106 rfl ?_
              refine j_iload hX dX6_search_107 rfl ?_
              refine j_callV hX cv_X6_118 (c6_later hM1 ht hO (by omega)) dX6_search_109 h_M rfl rfl (by exact ⟨Nat.le_of_ble_eq_true rfl, Nat.le_of_ble_eq_true rfl⟩) (by exact ⟨Nat.le_of_ble_eq_true rfl, Nat.le_of_ble_eq_true rfl⟩) (by exact Nat.le_of_ble_eq_true rfl) (fun v109 h109 hp109 => ?_) rfl
              obtain ⟨rfl, rfl⟩ := hp109
              refine j_lsub hX dX6_search_112 ?_
              refine j_lstore_n hX dX6_search_113 (by decide) ?_
              refine j_aload_n hX dX6_search_114 rfl ?_
              refine j_lload hX dX6_search_115 rfl ?_
              refine j_putE hX fp_X6_122_8 dX6_search_117 h_M rfl rfl (Nat.le_of_ble_eq_true rfl) (fs2 := (MF A9 n m ww tu1 th)) rfl ?_
              have hM2 := hM1.fld (n' := n) (m' := m) (sp' := ww) (tu' := tu1) (th' := th)
              have h_M := hM2.1
              refine j_aload_n hX dX6_search_120 rfl ?_
              refine j_iload hX dX6_search_121 rfl ?_
              refine j_putE hX fp_X6_126_8 dX6_search_123 h_M rfl rfl (Nat.le_of_ble_eq_true rfl) (fs2 := (MF A9 n m ww q th)) rfl ?_
              have hM3 := hM2.fld (n' := n) (m' := m) (sp' := ww) (tu' := q) (th' := th)
              have h_M := hM3.1
              have h_a1 := hM3.a1
              refine j_lload hX dX6_search_126 rfl ?_
              refine j_aload_n hX dX6_search_128 rfl ?_
              refine j_iload_n hX dX6_search_129 rfl ?_
              refine j_iload hX dX6_search_130 rfl ?_
              refine j_iconst hX dX6_search_132 ?_
              refine j_iadd hX dX6_search_133 ?_
              refine j_callV hX cv_X6_118 (c6_later hM3 ht hO (by omega)) dX6_search_134 h_M rfl rfl (by exact ⟨Nat.le_of_ble_eq_true rfl, Nat.le_of_ble_eq_true rfl⟩) (by exact ⟨Nat.le_of_ble_eq_true rfl, Nat.le_of_ble_eq_true rfl⟩) (by exact Nat.le_of_ble_eq_true rfl) (fun v134 h134 hp134 => ?_) rfl
              obtain ⟨rfl, rfl⟩ := hp134
              refine j_lcmp_gt hX 160 dX6_search_137 dX6_search_138 (by decide) (by omega) (by omega) (fun c137 => ?_) (fun c137 => ?_)
              · refine j_iinc hX dX6_search_160 rfl (by decide) ?_
                refine j_goto hX 17 dX6_search_163 (by decide) ?_
                rw [if_neg (by omega), if_pos (by omega)] at hs
                exact j_at (L' := [(0, .ref b), (1, .int (iZ (t : Int))), (2, .long (lZ _)), (4, .long (lZ (blk σ n t))), (6, .long (lZ _)), (8, .int (iZ (((q + 1) : Nat) : Int)))]) (hjo (ih (q + 1) _ ww _ _ _ (by omega) hM3 ((hFm.b _).b _) hw1 hw2 (fun v v1 v2 => hLE v v1 (by have e := nee_succ (σ := σ) (n := n) (m := m) (t := t) (B := blk σ n t) (q := q) (w := v); have e2 : nee σ n m t (blk σ n t) ((q : Int) + 1) v ≤ v := v2; have e3 : 1 ≤ cosT σ t := (by unfold cosT; omega); omega)) (by omega) (by omega) hs)) ⟨rfl, rfl, rfl, rfl, rfl, rfl, trivial⟩
              · refine j_lload_n hX dX6_search_141 rfl ?_
                refine j_aload_n hX dX6_search_142 rfl ?_
                refine j_get hX fl_X6_13_8 dX6_search_143 h_M (by rfl) ?_
                refine j_iload_n hX dX6_search_146 rfl ?_
                refine j_laldN hX _ rfl dX6_search_147 h_a1 (by omega) (by decide) ?_
                refine j_lcmp_le hX 158 dX6_search_148 dX6_search_149 (by decide) (by omega) (by omega) (fun c148 => ?_) (fun c148 => ?_)
                · refine j_lload_n hX dX6_search_158 rfl ?_
                  rw [if_pos (by omega), if_pos (by omega), if_neg (by omega)] at hs
                  exact j_lret hX hR dX6_search_159 ⟨by rw [← hs], _, _, hM3, ((hFm.b _).b _), fun _ => by rw [← hs]; exact ⟨rfl, rfl⟩⟩
                · refine j_ldc2 hX k_X6_80 (z := -1) (by decide) dX6_search_152 ?_
                  refine j_goto hX 159 dX6_search_155 (by decide) ?_
                  rw [if_pos (by omega), if_pos (by omega), if_pos (by omega)] at hs
                  exact j_lret hX hR dX6_search_159 ⟨by rw [← hs], _, _, hM3, ((hFm.b _).b _), fun z => absurd (by rw [← hs]) z⟩
          · refine j_lload hX dX6_search_46 rfl ?_
            refine j_ldc2 hX k_X6_116 (z := 40000) (by decide) dX6_search_48 ?_
            refine j_lcmp_gt hX 75 dX6_search_51 dX6_search_52 (by decide) (by omega) (by omega) (fun c51 => ?_) (fun c51 => ?_)
            · refine j_lload hX dX6_search_75 rfl ?_
              refine j_ldc2 hX k_X6_116 (z := 40000) (by decide) dX6_search_77 ?_
              refine j_lcmp_le hX 88 dX6_search_80 dX6_search_81 (by decide) (by omega) (by omega) (fun c80 => absurd c80 (by omega)) (fun c80 => ?_)
              refine j_ldc2 hX k_X6_80 (z := -1) (by decide) dX6_search_84 ?_
              have hz := spn_none (f := nee σ n m t (blk σ n t) q) (fun v v1 v2 v3 => by have e1 := hLE v v1 v3; have e2 := nee_mono hO (t := t) (B := blk σ n t) (q := q) e1; omega)
              unfold srch at hs
              rw [if_pos hz] at hs
              exact j_lret hX hR dX6_search_87 ⟨by rw [← hs], sp1, tu1, hM1, hFm, fun z => absurd (by rw [← hs]) z⟩
            · refine j_lload hX dX6_search_55 rfl ?_
              refine j_lstore hX dX6_search_57 (by decide) ?_
              refine j_aload_n hX dX6_search_59 rfl ?_
              refine j_iload_n hX dX6_search_60 rfl ?_
              refine j_iload hX dX6_search_61 rfl ?_
              refine j_lload hX dX6_search_63 rfl ?_
              refine j_lload hX dX6_search_65 rfl ?_
              refine j_callV hX cv_X6_112 (c6_need hM1 ht hO (by omega) (by omega) hB) dX6_search_67 h_M rfl rfl (by exact ⟨Nat.le_of_ble_eq_true rfl, Nat.le_of_ble_eq_true rfl⟩) (by exact ⟨Nat.le_of_ble_eq_true rfl, Nat.le_of_ble_eq_true rfl⟩) (by exact Nat.le_of_ble_eq_true rfl) (fun v67 h67 hp67 => ?_) rfl
              obtain ⟨rfl, rfl⟩ := hp67
              refine j_lstore hX dX6_search_70 (by decide) ?_
              refine j_goto hX 38 dX6_search_72 (by decide) ?_
              exact j_at (L' := [(0, .ref b), (1, .int (iZ (t : Int))), (2, .long (lZ best)), (4, .long (lZ (blk σ n t))), (6, .long (lZ (nee σ n m t (blk σ n t) q ww))), (8, .int (iZ ((q : Nat) : Int))), (9, .long (lZ (nee σ n m t (blk σ n t) q (nee σ n m t (blk σ n t) q ww))))]) (hjo (ih2 _ (by omega) (by omega) (by omega) (fun v v1 v2 => by have e1 := hLE v v1 v2; have e2 := nee_mono hO (t := t) (B := blk σ n t) (q := q) e1; omega))) ⟨rfl, rfl, rfl, rfl, rfl, rfl, rfl, trivial⟩
      refine hji ?_
      refine j_iload hX dX6_search_17 rfl ?_
      refine j_sipush hX dX6_search_19 (by decide) ?_
      refine j_icmp_ge hX 166 dX6_search_22 (by decide) (by omega) (by omega) (fun c22 => absurd c22 (by omega)) (fun c22 => ?_)
      refine j_aload_n hX dX6_search_25 rfl ?_
      refine j_iload_n hX dX6_search_26 rfl ?_
      refine j_iload hX dX6_search_27 rfl ?_
      refine j_lload hX dX6_search_29 rfl ?_
      refine j_lload hX dX6_search_31 rfl ?_
      refine j_callV hX cv_X6_112 (c6_need hM1 ht hO (by omega) (by omega) hB) dX6_search_33 h_M rfl rfl (by exact ⟨Nat.le_of_ble_eq_true rfl, Nat.le_of_ble_eq_true rfl⟩) (by exact ⟨Nat.le_of_ble_eq_true rfl, Nat.le_of_ble_eq_true rfl⟩) (by exact Nat.le_of_ble_eq_true rfl) (fun v33 h33 hp33 => ?_) rfl
      obtain ⟨rfl, rfl⟩ := hp33
      refine j_lstore hX dX6_search_36 (by decide) ?_
      exact j_at (L' := [(0, .ref b), (1, .int (iZ (t : Int))), (2, .long (lZ best)), (4, .long (lZ (blk σ n t))), (6, .long (lZ ww)), (8, .int (iZ ((q : Nat) : Int))), (9, .long (lZ (nee σ n m t (blk σ n t) q ww)))]) (hjo (lq (40001 - ww).toNat ww (by omega) hw1 hw2 hLE)) ⟨rfl, rfl, rfl, rfl, rfl, rfl, rfl, trivial⟩
  refine hji ?_
  refine j_ldc2 hX k_X6_80 (z := -1) (by decide) dX6_search_0 ?_
  refine j_lstore_n hX dX6_search_3 (by decide) ?_
  refine j_aload_n hX dX6_search_4 rfl ?_
  refine j_iload_n hX dX6_search_5 rfl ?_
  refine j_callV hX cv_X6_109 (c6_blocking hM ht hO) dX6_search_6 h_M rfl rfl (by exact ⟨Nat.le_of_ble_eq_true rfl, Nat.le_of_ble_eq_true rfl⟩) (by exact ⟨Nat.le_of_ble_eq_true rfl, Nat.le_of_ble_eq_true rfl⟩) (by exact Nat.le_of_ble_eq_true rfl) (fun v6 h6 hp6 => ?_) rfl
  obtain ⟨rfl, rfl⟩ := hp6
  refine j_lstore hX dX6_search_9 (by decide) ?_
  refine j_lconst1 hX dX6_search_11 ?_
  refine j_lstore hX dX6_search_12 (by decide) ?_
  refine j_iconst hX dX6_search_14 ?_
  refine j_istore hX dX6_search_15 (by decide) ?_
  exact j_at (L' := [(0, .ref b), (1, .int (iZ (t : Int))), (2, .long (lZ (-1))), (4, .long (lZ (blk σ n t))), (6, .long (lZ 1)), (8, .int (iZ ((0 : Nat) : Int)))]) (hjo (lp 500 0 (-1) 1 sp tu h rfl hM (Fm.rf h b A9) (by omega) (by omega) (fun v v1 v2 => v1) (by omega) (by omega) (srch_start hO ht (by omega)))) ⟨rfl, rfl, rfl, rfl, rfl, rfl, trivial⟩
