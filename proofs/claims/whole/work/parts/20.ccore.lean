/-! THE CLASS: its picture Cr; lists; blocking, shares, what is above takes -/
abbrev TF (AD : Nat → Nat) (σ : St) (t : Nat) : List Value := [.int (iZ (t : Int)), .long (lZ (σ 1 t)), .long (lZ (σ 0 t)), .long (lZ (σ 6 t)), .long (lZ (σ 3 t)), .long (lZ (σ 5 t)), .int (iZ (σ 4 t)), .int (iZ (σ 2 t)), .ref (AD (21 + 4 * t)), .ref (AD (22 + 4 * t)), .ref (AD (23 + 4 * t)), .int (iZ (σ 8 t)), .long (lZ (σ 7 t))]
abbrev IF (σ : St) (i : Nat) : List Value := [.int (iZ (-(i : Int))), .long (lZ (σ 13 i)), .long (lZ (σ 12 i)), .long (lZ 0), .long (lZ 0), .long (lZ 1), .int (iZ 1)]
abbrev FF4 (a b c d : Int) : List Value := [.int (iZ a), .long (lZ b), .int (iZ c), .long (lZ d)]
abbrev PF (AD : Nat → Nat) (kn ct en : Int) : List Value := [.int (iZ kn), .int (iZ ct), .int (iZ en), .ref (AD 7), .ref (AD 8), .ref (AD 9), .ref (AD 10), .ref (AD 11), .ref (AD 12), .ref (AD 13)]
/-- the places whose objects live -/
def Lv (n m k : Nat) : Prop := (k ≤ 15 ∧ (k = 2 → 1 ≤ n) ∧ (k = 4 → 1 ≤ m)) ∨ (24 ≤ k ∧ k < 24 + 4 * n) ∨ (101 ≤ k ∧ k ≤ 100 + m)
def LsAt (G : Gt) (h : hF) (tl te n : Nat) (f : Nat → Option Nat) : Prop := ∃ (mc : Int) (cap : Nat) (g : Nat → Option Nat), h tl = some (.inr (1, [.int (iZ mc), .ref te, .int (iZ (n : Int))])) ∧ ((n = 0 ∧ te = G.2.2) ∨ (1 ≤ n ∧ n ≤ cap ∧ (cap = 10 ∨ cap = 15 ∨ cap = 22) ∧ h te = some (gQ G cap g) ∧ ∀ i : Nat, i < n → g i = f i))
def CeAt (G : Gt) (h : hF) (a : Nat) (σ : St) (n : Nat) : Prop := ∃ c : Nat → Int, h a = some (gI G 33 c) ∧ ∀ r : Nat, r < 33 → (-1 ≤ c r ∧ c r ≤ 255) ∧ ∀ k : Int, 0 ≤ k → (k ≤ c r ↔ reach σ n r k)
def TkAt (G : Gt) (h : hF) (AD : Nat → Nat) (σ : St) (t : Nat) : Prop := h (AD (20 + 4 * t)) = some (.inr (6, TF AD σ t)) ∧ (∃ f, h (AD (21 + 4 * t)) = some (gI G 10 f) ∧ ∀ j : Nat, (j : Int) < σ 8 t → f j = σ 9 (10 * t - 10 + j)) ∧ (∃ f, h (AD (22 + 4 * t)) = some (gJ G 10 f) ∧ ∀ j : Nat, (j : Int) < σ 8 t → f j = σ 10 (10 * t - 10 + j)) ∧ ∃ a b c d : Int, h (AD (23 + 4 * t)) = some (.inr (3, FF4 a b c d)) ∧ (a = 0 ∨ a = 1)
def PhAt (G : Gt) (h : hF) (AD : Nat → Nat) : Prop := (∃ kn ct en : Int, h (AD 6) = some (.inr (5, PF AD kn ct en)) ∧ (kn = 0 ∨ kn = 1)) ∧ (∃ f, h (AD 8) = some (gI G 3 f)) ∧ ∀ k : Nat, k = 7 ∨ (9 ≤ k ∧ k ≤ 13) → ∃ f, h (AD k) = some (gJ G 3 f)
/-- the class's object: its cells by places -/
def Cr (G : Gt) (h : hF) (AD : Nat → Nat) (σ : St) (n m : Nat) : Prop :=
  (∀ i j : Nat, Lv n m i → Lv n m j → AD i = AD j → i = j) ∧ (h (AD 0) = some (.inr (2, [.ref (AD 1), .ref (AD 3), .ref (AD 5)])) ∧ h (AD 15) = some (.inr (7, [.ref (AD 0), .ref (AD 6), .ref (AD 14)]))) ∧ LsAt G h (AD 1) (AD 2) n (fun i => some (AD (24 + 4 * i))) ∧ LsAt G h (AD 3) (AD 4) m (fun i => some (AD (101 + i))) ∧ CeAt G h (AD 5) σ n ∧ (∀ t : Nat, 1 ≤ t → t ≤ n → TkAt G h AD σ t) ∧ (∀ i : Nat, 1 ≤ i → i ≤ m → h (AD (100 + i)) = some (.inr (4, IF σ i))) ∧ PhAt G h AD ∧ ∃ a b c d : Int, h (AD 14) = some (.inr (3, FF4 a b c d)) ∧ (a = 0 ∨ a = 1)
theorem hup_hup (h : hF) (q : Nat) (a b : va_E) : hup (hup h q a) q b = hup h q b := by
  funext j; unfold hup; split <;> rfl
section CR
variable {G : Gt} {h : hF} {AD : Nat → Nat} {σ : St} {n m : Nat}
theorem Cr.inj (hC : Cr G h AD σ n m) {i j : Nat} (hi : Lv n m i) (hj : Lv n m j) (e : i ≠ j) : AD i ≠ AD j := fun q => e (hC.1 i j hi hj q)
/-- the same cells but at one live place: all that speaks of the others stays -/
theorem LsAt.keep {h' : hF} {tl te k : Nat} {f : Nat → Option Nat} (H : LsAt G h tl te k f) (h1 : h' tl = h tl) (h2 : 1 ≤ k → h' te = h te) : LsAt G h' tl te k f := by
  obtain ⟨mc, cap, g, e1, e2⟩ := H
  refine ⟨mc, cap, g, h1.trans e1, ?_⟩
  rcases e2 with e2 | ⟨a1, a2, a3, a4, a5⟩
  · exact Or.inl e2
  · exact Or.inr ⟨a1, a2, a3, (h2 a1).trans a4, a5⟩
/-- findings may change -/
theorem Cr.fnd (hC : Cr G h AD σ n m) (hn16 : n ≤ 16) {k : Nat} (hk : k = 14 ∨ ∃ t : Nat, 1 ≤ t ∧ t ≤ n ∧ k = 23 + 4 * t) (a b c d : Int) (ha : a = 0 ∨ a = 1) : Cr G (hup h (AD k) (.inr (3, FF4 a b c d))) AD σ n m := by
  have hlk : Lv n m k := by rcases hk with rfl | ⟨t, h1, h2, rfl⟩ <;> (unfold Lv; omega)
  have ne : ∀ j : Nat, Lv n m j → j ≠ k → hup h (AD k) (.inr (3, FF4 a b c d)) (AD j) = h (AD j) := fun j hj e => hup_ne (hC.inj hj hlk e)
  have hk2 : k = 14 ∨ (27 ≤ k ∧ k % 4 = 3 ∧ k < 24 + 4 * n) := by rcases hk with rfl | ⟨t, h1, h2, rfl⟩ <;> omega
  obtain ⟨c1, ⟨c2, c3⟩, c4, c5, c6, c7, c8, c9, c10⟩ := hC
  refine ⟨c1, ⟨?_, ?_⟩, ?_, ?_, ?_, ?_, ?_, ?_, ?_⟩
  · rw [ne 0 (by unfold Lv; omega) (by omega)]; exact c2
  · rw [ne 15 (by unfold Lv; omega) (by omega)]; exact c3
  · exact c4.keep (ne 1 (by unfold Lv; omega) (by omega)) (fun z => ne 2 (by unfold Lv; omega) (by omega))
  · exact c5.keep (ne 3 (by unfold Lv; omega) (by omega)) (fun z => ne 4 (by unfold Lv; omega) (by omega))
  · obtain ⟨f, f1, f2⟩ := c6
    exact ⟨f, (ne 5 (by unfold Lv; omega) (by omega)).trans f1, f2⟩
  · intro t h1 h2
    obtain ⟨t1, ⟨f, f1, f2⟩, ⟨g, g1, g2⟩, x1, x2, x3, x4, x5, x6⟩ := c7 t h1 h2
    refine ⟨(ne _ (by unfold Lv; omega) (by omega)).trans t1, ⟨f, (ne _ (by unfold Lv; omega) (by omega)).trans f1, f2⟩, ⟨g, (ne _ (by unfold Lv; omega) (by omega)).trans g1, g2⟩, ?_⟩
    by_cases e : 23 + 4 * t = k
    · rw [e, hup_eq]; exact ⟨a, b, c, d, rfl, ha⟩
    · exact ⟨x1, x2, x3, x4, (ne _ (by unfold Lv; omega) e).trans x5, x6⟩
  · intro i h1 h2
    rw [ne _ (by unfold Lv; omega) (by omega)]; exact c8 i h1 h2
  · obtain ⟨⟨kn, ct, en, p1, p2⟩, ⟨f, f1⟩, p3⟩ := c9
    refine ⟨⟨kn, ct, en, (ne 6 (by unfold Lv; omega) (by omega)).trans p1, p2⟩, ⟨f, (ne 8 (by unfold Lv; omega) (by omega)).trans f1⟩, fun j hj => ?_⟩
    obtain ⟨f, f1⟩ := p3 j hj
    exact ⟨f, (ne j (by unfold Lv; omega) (by omega)).trans f1⟩
  · obtain ⟨x1, x2, x3, x4, x5, x6⟩ := c10
    by_cases e : 14 = k
    · rw [e, hup_eq]; exact ⟨a, b, c, d, rfl, ha⟩
    · exact ⟨x1, x2, x3, x4, (ne _ (by unfold Lv; omega) e).trans x5, x6⟩
theorem Cr.task (hC : Cr G h AD σ n m) {t : Nat} (ht : 1 ≤ t ∧ t ≤ n) : h (AD (20 + 4 * t)) = some (.inr (6, TF AD σ t)) := (hC.2.2.2.2.2.1 t ht.1 ht.2).1
theorem Cr.intr (hC : Cr G h AD σ n m) {i : Nat} (hi : 1 ≤ i ∧ i ≤ m) : h (AD (100 + i)) = some (.inr (4, IF σ i)) := hC.2.2.2.2.2.2.1 i hi.1 hi.2
theorem Cr.taskP (hC : Cr G h AD σ n m) {t : Nat} (ht : 1 ≤ t ∧ t ≤ n) : PartAt h (AD (20 + 4 * t)) (σ 0 t) (σ 1 t) (σ 6 t) (σ 3 t) (σ 5 t) (σ 4 t) := ⟨6, TF AD σ t, Or.inr rfl, hC.task ht, rfl, rfl, rfl, rfl, rfl, rfl⟩
theorem Cr.intrP (hC : Cr G h AD σ n m) {i : Nat} (hi : 1 ≤ i ∧ i ≤ m) : PartAt h (AD (100 + i)) (σ 12 i) (σ 13 i) 0 0 1 1 := ⟨4, IF σ i, Or.inl rfl, hC.intr hi, rfl, rfl, rfl, rfl, rfl, rfl⟩
theorem OKt.P {t : Nat} (h : OKt σ t) : PartOK (σ 0 t) (σ 1 t) (σ 6 t) (σ 3 t) (σ 5 t) (σ 4 t) := ⟨h.1, h.2.1, h.2.2.2.2.2.2.1, h.2.2.2.1, h.2.2.2.2.2.1, h.2.2.2.2.1⟩
theorem OKi.P {i : Nat} (h : OKi σ i) : PartOK (σ 12 i) (σ 13 i) 0 0 1 1 := ⟨h.1, h.2, by omega, by omega, by omega, by omega⟩
end CR
theorem acts_1 {per w : Int} (hp : 1 ≤ per) (hw : 0 ≤ w) : acts 1 1 0 per w = upw w per := by
  have h1 : upw w 1 = w := by unfold upw; rw [Int.ediv_one]; omega
  have h2 := (upw_b (d := w) (D := w) (b := per) ⟨hw, Int.le_refl w⟩ hp).2
  unfold acts
  rw [Int.one_mul, Int.add_zero, h1]
  split <;> omega
set_option maxRecDepth 100000 in
set_option maxHeartbeats 4000000 in
theorem c_size {l : Launch} {G : Gt} {B : Nat} {h : hF} {tl te k : Nat} {f : Nat → Option Nat} (hL : LsAt G h tl te k f) : Ct l G B yJx4a65c_size_8abf5 cJx4a65c_size_8abf5 1 (some .int) 0 0 0 [.ref tl] h (fun v h' => v = .int (iZ (k : Int)) ∧ h = h') := by
  refine Ct.of (by decide) (Nat.le_of_ble_eq_true rfl) ?_
  intro p e s m9 below meth c A hX hR hin
  obtain ⟨mc, cap, g, h_L, -⟩ := hL
  refine j_aload_n hX dJx4a65c_size_8abf5_0 rfl ?_
  refine j_get hX fl_Jx4a65c_48_1 dJx4a65c_size_8abf5_1 h_L (by rfl) ?_
  exact j_iret hX hR dJx4a65c_size_8abf5_4 ⟨rfl, rfl⟩
set_option maxRecDepth 100000 in
set_option maxHeartbeats 4000000 in
theorem c_isEmpty {l : Launch} {G : Gt} {B : Nat} {h : hF} {tl te k : Nat} {f : Nat → Option Nat} (hL : LsAt G h tl te k f) (hk : k ≤ 100) : Ct l G B yJx4a65c_isEmpty_aae02 cJx4a65c_isEmpty_aae02 1 (some .boolean) 0 0 0 [.ref tl] h (fun v h' => v = .int (iZ (if k = 0 then 1 else 0)) ∧ h = h') := by
  refine Ct.of (by decide) (Nat.le_of_ble_eq_true rfl) ?_
  intro p e s m9 below meth c A hX hR hin
  obtain ⟨mc, cap, g, h_L, -⟩ := hL
  refine j_aload_n hX dJx4a65c_isEmpty_aae02_0 rfl ?_
  refine j_get hX fl_Jx4a65c_48_1 dJx4a65c_isEmpty_aae02_1 h_L (by rfl) ?_
  refine j_if_ne hX 11 dJx4a65c_isEmpty_aae02_4 (by decide) (by omega) (fun c4 => ?_) (fun c4 => ?_)
  · refine j_iconst hX dJx4a65c_isEmpty_aae02_11 ?_
    exact j_zret hX hR dJx4a65c_isEmpty_aae02_12 (by omega) ⟨by first | rw [if_pos (by omega)] | rw [if_neg (by omega)], rfl⟩
  · refine j_iconst hX dJx4a65c_isEmpty_aae02_7 ?_
    refine j_goto hX 12 dJx4a65c_isEmpty_aae02_8 (by decide) ?_
    exact j_zret hX hR dJx4a65c_isEmpty_aae02_12 (by omega) ⟨by first | rw [if_pos (by omega)] | rw [if_neg (by omega)], rfl⟩
set_option maxRecDepth 100000 in
set_option maxHeartbeats 4000000 in
theorem c_check3 {l : Launch} {G : Gt} {B : Nat} {h : hF} {i k : Nat} (hi : i < k) (hk : k ≤ 100) : Ct l G B yJ3_checkIndex_8e157 cJ3_checkIndex_8e157 3 (some .int) 0 0 0 [.int (iZ (i : Int)), .int (iZ (k : Int)), .null] h (fun v h' => v = .int (iZ (i : Int)) ∧ h = h') := by
  refine Ct.of (by decide) (Nat.le_of_ble_eq_true rfl) ?_
  intro p e s m9 below meth c A hX hR hin
  refine j_iload_n hX dJ3_checkIndex_8e157_0 rfl ?_
  refine j_if_lt hX 9 dJ3_checkIndex_8e157_1 (by decide) (by omega) (fun c1 => absurd c1 (by omega)) (fun c1 => ?_)
  refine j_iload_n hX dJ3_checkIndex_8e157_4 rfl ?_
  refine j_iload_n hX dJ3_checkIndex_8e157_5 rfl ?_
  refine j_icmp_lt hX 16 dJ3_checkIndex_8e157_6 (by decide) (by omega) (by omega) (fun c6 => ?_) (fun c6 => absurd c6 (by omega))
  refine j_iload_n hX dJ3_checkIndex_8e157_16 rfl ?_
  exact j_iret hX hR dJ3_checkIndex_8e157_17 ⟨rfl, rfl⟩
set_option maxRecDepth 100000 in
set_option maxHeartbeats 4000000 in
theorem c_check2 {l : Launch} {G : Gt} {B : Nat} {h : hF} {i k : Nat} (hi : i < k) (hk : k ≤ 100) : Ct l G B yJ15_checkIndex_7cf53 cJ15_checkIndex_7cf53 2 (some .int) 1 0 0 [.int (iZ (i : Int)), .int (iZ (k : Int))] h (fun v h' => v = .int (iZ (i : Int)) ∧ h = h') := by
  refine Ct.of (by decide) (Nat.le_of_ble_eq_true rfl) ?_
  intro p e s m9 below meth c A hX hR hin
  refine j_iload_n hX dJ15_checkIndex_7cf53_0 rfl ?_
  refine j_iload_n hX dJ15_checkIndex_7cf53_1 rfl ?_
  refine j_null hX dJ15_checkIndex_7cf53_2 ?_
  refine j_callS hX cs_J15_105 (c_check3 hi hk) dJ15_checkIndex_7cf53_3 rfl (by exact ⟨Nat.le_of_ble_eq_true rfl, Nat.le_of_ble_eq_true rfl⟩) (by exact ⟨Nat.le_of_ble_eq_true rfl, Nat.le_of_ble_eq_true rfl⟩) (by exact Nat.le_of_ble_eq_true rfl) (fun v3 h3 hp3 => ?_) rfl
  obtain ⟨rfl, rfl⟩ := hp3
  exact j_iret hX hR dJ15_checkIndex_7cf53_6 ⟨rfl, rfl⟩
set_option maxRecDepth 100000 in
set_option maxHeartbeats 4000000 in
theorem c_elem {l : Launch} {G : Gt} {B : Nat} {h : hF} {tl te k i : Nat} {f : Nat → Option Nat} (hL : LsAt G h tl te k f) {x : Nat} (hi : i < k) (hf : f i = some x) : Ct l G B yJx4a65c_elementData_915e3 cJx4a65c_elementData_915e3 2 (some (.object "java/lang/Object")) 0 0 0 [.ref tl, .int (iZ (i : Int))] h (fun v h' => v = .ref x ∧ h = h') := by
  refine Ct.of (by decide) (Nat.le_of_ble_eq_true rfl) ?_
  intro p e s m9 below meth c A hX hR hin
  obtain ⟨mc, cap, g, h_L, hq⟩ := hL
  rcases hq with ⟨z, -⟩ | ⟨-, hcap, hcc, h_E, hg⟩
  · omega
  have e9 : va_rf (g i) = .ref x := by rw [hg i hi, hf]; rfl
  refine j_aload_n hX dJx4a65c_elementData_915e3_0 rfl ?_
  refine j_get hX fl_Jx4a65c_9_1 dJx4a65c_elementData_915e3_1 h_L (by rfl) ?_
  refine j_iload_n hX dJx4a65c_elementData_915e3_4 rfl ?_
  refine j_aaldN hX _ rfl dJx4a65c_elementData_915e3_5 h_E (by omega) (by omega) ?_
  rw [e9]
  exact j_aret hX hR (Or.inl ⟨_, rfl⟩) dJx4a65c_elementData_915e3_6 (Or.inr ⟨_, rfl⟩) ⟨rfl, rfl⟩
set_option maxRecDepth 100000 in
set_option maxHeartbeats 4000000 in
theorem c_get {l : Launch} {G : Gt} {B : Nat} {h : hF} {tl te k i : Nat} {f : Nat → Option Nat} (hL : LsAt G h tl te k f) (hk : k ≤ 100) {x : Nat} (hi : i < k) (hf : f i = some x) : Ct l G B yJx4a65c_get_915e3 cJx4a65c_get_915e3 2 (some (.object "java/lang/Object")) 2 0 0 [.ref tl, .int (iZ (i : Int))] h (fun v h' => v = .ref x ∧ h = h') := by
  refine Ct.of (by decide) (Nat.le_of_ble_eq_true rfl) ?_
  intro p e s m9 below meth c A hX hR hin
  have hL9 := hL
  obtain ⟨mc, cap, g, h_L, hq⟩ := hL
  refine j_iload_n hX dJx4a65c_get_915e3_0 rfl ?_
  refine j_aload_n hX dJx4a65c_get_915e3_1 rfl ?_
  refine j_get hX fl_Jx4a65c_48_1 dJx4a65c_get_915e3_2 h_L (by rfl) ?_
  refine j_callS hX cs_Jx4a65c_118 (c_check2 hi hk) dJx4a65c_get_915e3_5 rfl (by exact ⟨Nat.le_of_ble_eq_true rfl, Nat.le_of_ble_eq_true rfl⟩) (by exact ⟨Nat.le_of_ble_eq_true rfl, Nat.le_of_ble_eq_true rfl⟩) (by exact Nat.le_of_ble_eq_true rfl) (fun v5 h5 hp5 => ?_) rfl
  obtain ⟨rfl, rfl⟩ := hp5
  refine j_pop hX dJx4a65c_get_915e3_8 rfl ?_
  refine j_aload_n hX dJx4a65c_get_915e3_9 rfl ?_
  refine j_iload_n hX dJx4a65c_get_915e3_10 rfl ?_
  refine j_callV hX cv_Jx4a65c_123 (c_elem hL9 hi hf) dJx4a65c_get_915e3_11 h_L rfl rfl (by exact ⟨Nat.le_of_ble_eq_true rfl, Nat.le_of_ble_eq_true rfl⟩) (by exact ⟨Nat.le_of_ble_eq_true rfl, Nat.le_of_ble_eq_true rfl⟩) (by exact Nat.le_of_ble_eq_true rfl) (fun v11 h11 hp11 => ?_) rfl
  obtain ⟨rfl, rfl⟩ := hp11
  exact j_aret hX hR (Or.inl ⟨_, rfl⟩) dJx4a65c_get_915e3_14 (Or.inr ⟨_, rfl⟩) ⟨rfl, rfl⟩
set_option maxRecDepth 100000 in
set_option maxHeartbeats 4000000 in
theorem c_taskOf {l : Launch} {G : Gt} {B : Nat} {h : hF} {AD : Nat → Nat} {σ : St} {n m : Nat} (hC : Cr G h AD σ n m) (hO : OK n m σ) {z : Int} (hz : -2147483648 ≤ z ∧ z < 2147483648) : Ct l G B yX0_taskOf cX0_taskOf 2 (some (.object "AnswerSums$Task")) 3 0 0 [.ref (AD 0), .int (iZ z)] h (fun v h' => v = (if 1 ≤ z ∧ z ≤ n then .ref (AD (20 + 4 * z.toNat)) else .null) ∧ h = h') := by
  refine Ct.of (by decide) (Nat.le_of_ble_eq_true rfl) ?_
  intro p e s m9 below meth c A hX hR hin
  have hn16 := hO.1
  have hm8 := hO.2.1
  have h_C := hC.2.1.1
  have hTL := hC.2.2.1
  have hIL := hC.2.2.2.1
  have hTL9 := hTL
  obtain ⟨mcT, capT, gT, h_TL, -⟩ := hTL9
  have hIL9 := hIL
  obtain ⟨mcI, capI, gI9, h_IL, -⟩ := hIL9
  refine j_iload_n hX dX0_taskOf_0 rfl ?_
  refine j_iconst hX dX0_taskOf_1 ?_
  refine j_icmp_lt hX 16 dX0_taskOf_2 (by decide) (by omega) (by omega) (fun c2 => ?_) (fun c2 => ?_)
  · refine j_null hX dX0_taskOf_16 ?_
    refine j_goto hX 33 dX0_taskOf_17 (by decide) ?_
    exact j_aret hX hR (Or.inl ⟨_, rfl⟩) dX0_taskOf_33 (Or.inl rfl) ⟨by rw [if_neg (by omega)], rfl⟩
  · refine j_iload_n hX dX0_taskOf_5 rfl ?_
    refine j_aload_n hX dX0_taskOf_6 rfl ?_
    refine j_get hX fl_X0_12_2 dX0_taskOf_7 h_C (by rfl) ?_
    refine j_callV hX cv_X0_25 (c_size hTL) dX0_taskOf_10 h_TL rfl rfl (by exact ⟨Nat.le_of_ble_eq_true rfl, Nat.le_of_ble_eq_true rfl⟩) (by exact ⟨Nat.le_of_ble_eq_true rfl, Nat.le_of_ble_eq_true rfl⟩) (by exact Nat.le_of_ble_eq_true rfl) (fun v10 h10 hp10 => ?_) rfl
    obtain ⟨rfl, rfl⟩ := hp10
    refine j_icmp_le hX 20 dX0_taskOf_13 (by decide) (by omega) (by omega) (fun c13 => ?_) (fun c13 => ?_)
    · refine j_aload_n hX dX0_taskOf_20 rfl ?_
      refine j_get hX fl_X0_12_2 dX0_taskOf_21 h_C (by rfl) ?_
      obtain ⟨t, rfl⟩ : ∃ t : Nat, z = (t : Int) := ⟨z.toNat, by omega⟩
      have h_T := hC.task (t := t) ⟨by omega, by omega⟩
      refine j_iload_n hX dX0_taskOf_24 rfl ?_
      refine j_iconst hX dX0_taskOf_25 ?_
      refine j_isub hX dX0_taskOf_26 ?_
      rw [show ((t : Int) - 1) = ((t - 1 : Nat) : Int) by omega]
      refine j_callV hX cv_X0_29 (c_get hTL (by omega) (i := t - 1) (x := AD (20 + 4 * t)) (by omega) (by show some (AD (24 + 4 * (t - 1))) = _; congr 2; omega)) dX0_taskOf_27 h_TL rfl rfl (by exact ⟨Nat.le_of_ble_eq_true rfl, Nat.le_of_ble_eq_true rfl⟩) (by exact ⟨Nat.le_of_ble_eq_true rfl, Nat.le_of_ble_eq_true rfl⟩) (by exact Nat.le_of_ble_eq_true rfl) (fun v27 h27 hp27 => ?_) rfl
      obtain ⟨rfl, rfl⟩ := hp27
      refine j_castS hX ck_X0_33 dX0_taskOf_30 h_T rfl ?_
      exact j_aret hX hR (Or.inl ⟨_, rfl⟩) dX0_taskOf_33 (Or.inr ⟨_, rfl⟩) ⟨by rw [if_pos ⟨by omega, by omega⟩]; rfl, rfl⟩
    · refine j_null hX dX0_taskOf_16 ?_
      refine j_goto hX 33 dX0_taskOf_17 (by decide) ?_
      exact j_aret hX hR (Or.inl ⟨_, rfl⟩) dX0_taskOf_33 (Or.inl rfl) ⟨by rw [if_neg (by omega)], rfl⟩
set_option maxRecDepth 100000 in
set_option maxHeartbeats 4000000 in
theorem c_isAbove {l : Launch} {G : Gt} {B : Nat} {h : hF} {AD : Nat → Nat} {σ : St} {n m : Nat} (hC : Cr G h AD σ n m) (hO : OK n m σ) {o t : Nat} (ho : 1 ≤ o ∧ o ≤ n) (ht : 1 ≤ t ∧ t ≤ n) : Ct l G B yX4_isAbove cX4_isAbove 2 (some .boolean) 0 0 0 [.ref (AD (20 + 4 * o)), .ref (AD (20 + 4 * t))] h (fun v h' => (∃ y : Int, v = .int (iZ y) ∧ ((y = 1 ∧ o ≠ t ∧ σ 2 t ≤ σ 2 o) ∨ (y = 0 ∧ ¬ (o ≠ t ∧ σ 2 t ≤ σ 2 o)))) ∧ h = h') := by
  refine Ct.of (by decide) (Nat.le_of_ble_eq_true rfl) ?_
  intro p e s m9 below meth c A hX hR hin
  have h_O := hC.task ho
  have h_T := hC.task ht
  obtain ⟨-, -, a2, -⟩ := hO.2.2.1 o ho.1 ho.2
  obtain ⟨-, -, b2, -⟩ := hO.2.2.1 t ht.1 ht.2
  have hinj : AD (20 + 4 * o) = AD (20 + 4 * t) → o = t := fun q9 => by have := hC.1 _ _ (by unfold Lv; omega) (by unfold Lv; omega) q9; omega
  refine j_aload_n hX dX4_isAbove_0 rfl ?_
  refine j_aload_n hX dX4_isAbove_1 rfl ?_
  refine j_acmp_eq hX 20 dX4_isAbove_2 (by decide) (fun c2 => ?_) (fun c2 => ?_)
  · refine j_iconst hX dX4_isAbove_20 ?_
    exact j_zret hX hR dX4_isAbove_21 (by omega) ⟨⟨0, rfl, Or.inr ⟨rfl, fun z9 => z9.1 (hinj c2)⟩⟩, rfl⟩
  · refine j_aload_n hX dX4_isAbove_5 rfl ?_
    refine j_get hX fl_X4_34_6 dX4_isAbove_6 h_O (by rfl) ?_
    refine j_aload_n hX dX4_isAbove_9 rfl ?_
    refine j_get hX fl_X4_34_6 dX4_isAbove_10 h_T (by rfl) ?_
    refine j_icmp_lt hX 20 dX4_isAbove_13 (by decide) (by omega) (by omega) (fun c13 => ?_) (fun c13 => ?_)
    · refine j_iconst hX dX4_isAbove_20 ?_
      exact j_zret hX hR dX4_isAbove_21 (by omega) ⟨⟨0, rfl, Or.inr ⟨rfl, fun z9 => by omega⟩⟩, rfl⟩
    · refine j_iconst hX dX4_isAbove_16 ?_
      refine j_goto hX 21 dX4_isAbove_17 (by decide) ?_
      exact j_zret hX hR dX4_isAbove_21 (by omega) ⟨⟨1, rfl, Or.inl ⟨rfl, fun z9 => c2 (by rw [z9]), by omega⟩⟩, rfl⟩
set_option maxRecDepth 100000 in
set_option maxHeartbeats 4000000 in
theorem c_takenAbove {l : Launch} {G : Gt} {B : Nat} {h : hF} {AD : Nat → Nat} {σ : St} {n m : Nat} (hC : Cr G h AD σ n m) (hO : OK n m σ) {t : Nat} (ht : 1 ≤ t ∧ t ≤ n) {w : Int} (hw : 0 ≤ w ∧ w ≤ 40000) : Ct l G B yX0_takenAbove cX0_takenAbove 8 (some .long) 3 0 0 [.ref (AD 0), .ref (AD (20 + 4 * t)), .long (lZ w)] h (fun v h' => v = .long (lZ (takT σ t n w + takI σ m w)) ∧ h = h') := by
  refine Ct.of (by decide) (Nat.le_of_ble_eq_true rfl) ?_
  intro p e s m9 below meth c A hX hR hin
  have hn16 := hO.1
  have hm8 := hO.2.1
  have h_C := hC.2.1.1
  have hTL := hC.2.2.1
  have hIL := hC.2.2.2.1
  have hTL9 := hTL
  obtain ⟨mcT, capT, gT, h_TL, -⟩ := hTL9
  have hIL9 := hIL
  obtain ⟨mcI, capI, gI9, h_IL, -⟩ := hIL9
  have h_T := hC.task ht
  have hw9 : 0 ≤ w ∧ w ≤ 1000000 := by omega
  refine J_abs (J0 := J p l e _ s m9 _ below meth c _ _ G A) ?_
  intro JX hji hjo
  have li : ∀ (d o : Nat) (x : Int), d + o = m → x = takT σ t n w + takI σ o w → JX 0 0 67 [(0, .ref (AD 0)), (1, .ref (AD (20 + 4 * t))), (2, .long (lZ w)), (4, .long (lZ x)), (6, .int (iZ ((o : Nat) : Int)))] [] h := by
    intro d
    induction d with
    | zero =>
      intro o x hd hx
      refine hji ?_
      refine j_iload hX dX0_takenAbove_67 rfl ?_
      refine j_aload_n hX dX0_takenAbove_69 rfl ?_
      refine j_get hX fl_X0_18_2 dX0_takenAbove_70 h_C (by rfl) ?_
      refine j_callV hX cv_X0_25 (c_size hIL) dX0_takenAbove_73 h_IL rfl rfl (by exact ⟨Nat.le_of_ble_eq_true rfl, Nat.le_of_ble_eq_true rfl⟩) (by exact ⟨Nat.le_of_ble_eq_true rfl, Nat.le_of_ble_eq_true rfl⟩) (by exact Nat.le_of_ble_eq_true rfl) (fun v73 h73 hp73 => ?_) rfl
      obtain ⟨rfl, rfl⟩ := hp73
      refine j_icmp_ge hX 116 dX0_takenAbove_76 (by decide) (by omega) (by omega) (fun c76 => ?_) (fun c76 => absurd c76 (by omega))
      refine j_lload hX dX0_takenAbove_116 rfl ?_
      exact j_lret hX hR dX0_takenAbove_118 ⟨by rw [hx, show o = m by omega], rfl⟩
    | succ d ih =>
      intro o x hd hx
      have hOi := hO.2.2.2 (o + 1) (by omega) (by omega)
      have hI9 := hC.intrP (i := o + 1) ⟨by omega, by omega⟩
      have h_I : h (AD (101 + o)) = some (.inr (4, IF σ (o + 1))) := by have z9 := hC.intr (i := o + 1) ⟨by omega, by omega⟩; rw [show 100 + (o + 1) = 101 + o by omega] at z9; exact z9
      rw [show 100 + (o + 1) = 101 + o by omega] at hI9
      have ha1 := acts_1 (per := σ 13 (o + 1)) (w := w) hOi.2.1 (by omega)
      refine hji ?_
      refine j_iload hX dX0_takenAbove_67 rfl ?_
      refine j_aload_n hX dX0_takenAbove_69 rfl ?_
      refine j_get hX fl_X0_18_2 dX0_takenAbove_70 h_C (by rfl) ?_
      refine j_callV hX cv_X0_25 (c_size hIL) dX0_takenAbove_73 h_IL rfl rfl (by exact ⟨Nat.le_of_ble_eq_true rfl, Nat.le_of_ble_eq_true rfl⟩) (by exact ⟨Nat.le_of_ble_eq_true rfl, Nat.le_of_ble_eq_true rfl⟩) (by exact Nat.le_of_ble_eq_true rfl) (fun v73 h73 hp73 => ?_) rfl
      obtain ⟨rfl, rfl⟩ := hp73
      refine j_icmp_ge hX 116 dX0_takenAbove_76 (by decide) (by omega) (by omega) (fun c76 => absurd c76 (by omega)) (fun c76 => ?_)
      refine j_aload_n hX dX0_takenAbove_79 rfl ?_
      refine j_get hX fl_X0_18_2 dX0_takenAbove_80 h_C (by rfl) ?_
      refine j_iload hX dX0_takenAbove_83 rfl ?_
      refine j_callV hX cv_X0_29 (c_get hIL (by omega) (i := o) (by omega) rfl) dX0_takenAbove_85 h_IL rfl rfl (by exact ⟨Nat.le_of_ble_eq_true rfl, Nat.le_of_ble_eq_true rfl⟩) (by exact ⟨Nat.le_of_ble_eq_true rfl, Nat.le_of_ble_eq_true rfl⟩) (by exact Nat.le_of_ble_eq_true rfl) (fun v85 h85 hp85 => ?_) rfl
      obtain ⟨rfl, rfl⟩ := hp85
      refine j_castS hX ck_X0_70 dX0_takenAbove_88 h_I rfl ?_
      refine j_astore hX dX0_takenAbove_91 (by decide) ?_
      refine j_lload hX dX0_takenAbove_93 rfl ?_
      refine j_aload hX dX0_takenAbove_95 rfl ?_
      refine j_lload_n hX dX0_takenAbove_97 rfl ?_
      refine j_callV hX cv_X0_80 (c_acts hI9 hOi.P hw9) dX0_takenAbove_98 h_I rfl rfl (by exact ⟨Nat.le_of_ble_eq_true rfl, Nat.le_of_ble_eq_true rfl⟩) (by exact ⟨Nat.le_of_ble_eq_true rfl, Nat.le_of_ble_eq_true rfl⟩) (by exact Nat.le_of_ble_eq_true rfl) (fun v98 h98 hp98 => ?_) rfl
      obtain ⟨rfl, rfl⟩ := hp98
      refine j_aload hX dX0_takenAbove_101 rfl ?_
      refine j_callV hX cv_X0_81 (c_cost hI9) dX0_takenAbove_103 h_I rfl rfl (by exact ⟨Nat.le_of_ble_eq_true rfl, Nat.le_of_ble_eq_true rfl⟩) (by exact ⟨Nat.le_of_ble_eq_true rfl, Nat.le_of_ble_eq_true rfl⟩) (by exact Nat.le_of_ble_eq_true rfl) (fun v103 h103 hp103 => ?_) rfl
      obtain ⟨rfl, rfl⟩ := hp103
      refine j_lmul hX dX0_takenAbove_106 ?_
      refine j_ladd hX dX0_takenAbove_107 ?_
      refine j_lstore hX dX0_takenAbove_108 (by decide) ?_
      refine j_iinc hX dX0_takenAbove_110 rfl (by decide) ?_
      refine j_goto hX 67 dX0_takenAbove_113 (by decide) ?_
      exact j_at (L' := [(0, .ref (AD 0)), (1, .ref (AD (20 + 4 * t))), (2, .long (lZ w)), (4, .long (lZ _)), (6, .int (iZ (((o + 1) : Nat) : Int)))]) (hjo (ih (o + 1) _ (by omega) (by rw [hx, ha1, Int.add_zero]; show _ = _ + (takI σ o w + _); omega))) ⟨rfl, rfl, rfl, rfl, rfl, trivial⟩
  have lp : ∀ (d o : Nat) (x : Int), d + o = n → x = takT σ t o w → JX 0 0 6 [(0, .ref (AD 0)), (1, .ref (AD (20 + 4 * t))), (2, .long (lZ w)), (4, .long (lZ x)), (6, .int (iZ ((o : Nat) : Int)))] [] h := by
    intro d
    induction d with
    | zero =>
      intro o x hd hx
      refine hji ?_
      refine j_iload hX dX0_takenAbove_6 rfl ?_
      refine j_aload_n hX dX0_takenAbove_8 rfl ?_
      refine j_get hX fl_X0_12_2 dX0_takenAbove_9 h_C (by rfl) ?_
      refine j_callV hX cv_X0_25 (c_size hTL) dX0_takenAbove_12 h_TL rfl rfl (by exact ⟨Nat.le_of_ble_eq_true rfl, Nat.le_of_ble_eq_true rfl⟩) (by exact ⟨Nat.le_of_ble_eq_true rfl, Nat.le_of_ble_eq_true rfl⟩) (by exact Nat.le_of_ble_eq_true rfl) (fun v12 h12 hp12 => ?_) rfl
      obtain ⟨rfl, rfl⟩ := hp12
      refine j_icmp_ge hX 64 dX0_takenAbove_15 (by decide) (by omega) (by omega) (fun c15 => ?_) (fun c15 => absurd c15 (by omega))
      refine j_iconst hX dX0_takenAbove_64 ?_
      refine j_istore hX dX0_takenAbove_65 (by decide) ?_
      exact j_at (L' := [(0, .ref (AD 0)), (1, .ref (AD (20 + 4 * t))), (2, .long (lZ w)), (4, .long (lZ x)), (6, .int (iZ ((0 : Nat) : Int)))]) (hjo (li m 0 x (by omega) (by rw [hx, show o = n by omega]; show _ = _ + 0; omega))) ⟨rfl, rfl, rfl, rfl, rfl, trivial⟩
    | succ d ih =>
      intro o x hd hx
      have hOt := hO.2.2.1 (o + 1) (by omega) (by omega)
      have hT9 := hC.taskP (t := o + 1) ⟨by omega, by omega⟩
      have h_O := hC.task (t := o + 1) ⟨by omega, by omega⟩
      have e9 : 20 + 4 * (o + 1) = 24 + 4 * o := by omega
      refine hji ?_
      refine j_iload hX dX0_takenAbove_6 rfl ?_
      refine j_aload_n hX dX0_takenAbove_8 rfl ?_
      refine j_get hX fl_X0_12_2 dX0_takenAbove_9 h_C (by rfl) ?_
      refine j_callV hX cv_X0_25 (c_size hTL) dX0_takenAbove_12 h_TL rfl rfl (by exact ⟨Nat.le_of_ble_eq_true rfl, Nat.le_of_ble_eq_true rfl⟩) (by exact ⟨Nat.le_of_ble_eq_true rfl, Nat.le_of_ble_eq_true rfl⟩) (by exact Nat.le_of_ble_eq_true rfl) (fun v12 h12 hp12 => ?_) rfl
      obtain ⟨rfl, rfl⟩ := hp12
      refine j_icmp_ge hX 64 dX0_takenAbove_15 (by decide) (by omega) (by omega) (fun c15 => absurd c15 (by omega)) (fun c15 => ?_)
      refine j_aload_n hX dX0_takenAbove_18 rfl ?_
      refine j_get hX fl_X0_12_2 dX0_takenAbove_19 h_C (by rfl) ?_
      refine j_iload hX dX0_takenAbove_22 rfl ?_
      refine j_callV hX cv_X0_29 (c_get hTL (by omega) (i := o) (x := AD (20 + 4 * (o + 1))) (by omega) (by rw [e9])) dX0_takenAbove_24 h_TL rfl rfl (by exact ⟨Nat.le_of_ble_eq_true rfl, Nat.le_of_ble_eq_true rfl⟩) (by exact ⟨Nat.le_of_ble_eq_true rfl, Nat.le_of_ble_eq_true rfl⟩) (by exact Nat.le_of_ble_eq_true rfl) (fun v24 h24 hp24 => ?_) rfl
      obtain ⟨rfl, rfl⟩ := hp24
      refine j_castS hX ck_X0_33 dX0_takenAbove_27 h_O rfl ?_
      refine j_astore hX dX0_takenAbove_30 (by decide) ?_
      refine j_aload hX dX0_takenAbove_32 rfl ?_
      refine j_aload_n hX dX0_takenAbove_34 rfl ?_
      refine j_callV hX cv_X0_66 (c_isAbove hC hO (o := (o + 1)) (t := t) ⟨by omega, by omega⟩ ht) dX0_takenAbove_35 h_O rfl rfl (by exact ⟨Nat.le_of_ble_eq_true rfl, Nat.le_of_ble_eq_true rfl⟩) (by exact ⟨Nat.le_of_ble_eq_true rfl, Nat.le_of_ble_eq_true rfl⟩) (by exact Nat.le_of_ble_eq_true rfl) (fun v35 h35 hp35 => ?_) rfl
      obtain ⟨⟨y35, rfl, hy35⟩, rfl⟩ := hp35
      refine j_if_eq hX 58 dX0_takenAbove_38 (by decide) (by omega) (fun c38 => ?_) (fun c38 => ?_)
      · refine j_iinc hX dX0_takenAbove_58 rfl (by decide) ?_
        refine j_goto hX 6 dX0_takenAbove_61 (by decide) ?_
        exact j_at (L' := [(0, .ref (AD 0)), (1, .ref (AD (20 + 4 * t))), (2, .long (lZ w)), (4, .long (lZ _)), (6, .int (iZ (((o + 1) : Nat) : Int)))]) (hjo (ih (o + 1) _ (by omega) (by rw [hx]; show _ = takT σ t o w + _; rw [if_neg (by omega)]; omega))) ⟨rfl, rfl, rfl, rfl, rfl, trivial⟩
      · refine j_lload hX dX0_takenAbove_41 rfl ?_
        refine j_aload hX dX0_takenAbove_43 rfl ?_
        refine j_lload_n hX dX0_takenAbove_45 rfl ?_
        refine j_callU hX cu_X0_72_6 (c_acts hT9 hOt.P hw9) dX0_takenAbove_46 h_O rfl rfl (by exact ⟨Nat.le_of_ble_eq_true rfl, Nat.le_of_ble_eq_true rfl⟩) (by exact ⟨Nat.le_of_ble_eq_true rfl, Nat.le_of_ble_eq_true rfl⟩) (by exact Nat.le_of_ble_eq_true rfl) (fun v46 h46 hp46 => ?_) rfl
        obtain ⟨rfl, rfl⟩ := hp46
        refine j_aload hX dX0_takenAbove_49 rfl ?_
        refine j_callU hX cu_X0_76_6 (c_cost hT9) dX0_takenAbove_51 h_O rfl rfl (by exact ⟨Nat.le_of_ble_eq_true rfl, Nat.le_of_ble_eq_true rfl⟩) (by exact ⟨Nat.le_of_ble_eq_true rfl, Nat.le_of_ble_eq_true rfl⟩) (by exact Nat.le_of_ble_eq_true rfl) (fun v51 h51 hp51 => ?_) rfl
        obtain ⟨rfl, rfl⟩ := hp51
        refine j_lmul hX dX0_takenAbove_54 ?_
        refine j_ladd hX dX0_takenAbove_55 ?_
        refine j_lstore hX dX0_takenAbove_56 (by decide) ?_
        refine j_iinc hX dX0_takenAbove_58 rfl (by decide) ?_
        refine j_goto hX 6 dX0_takenAbove_61 (by decide) ?_
        exact j_at (L' := [(0, .ref (AD 0)), (1, .ref (AD (20 + 4 * t))), (2, .long (lZ w)), (4, .long (lZ _)), (6, .int (iZ (((o + 1) : Nat) : Int)))]) (hjo (ih (o + 1) _ (by omega) (by rw [hx]; show _ = takT σ t o w + _; rw [if_pos (by omega)]; try rfl))) ⟨rfl, rfl, rfl, rfl, rfl, trivial⟩
  refine hji ?_
  refine j_lconst0 hX dX0_takenAbove_0 ?_
  refine j_lstore hX dX0_takenAbove_1 (by decide) ?_
  refine j_iconst hX dX0_takenAbove_3 ?_
  refine j_istore hX dX0_takenAbove_4 (by decide) ?_
  exact j_at (L' := [(0, .ref (AD 0)), (1, .ref (AD (20 + 4 * t))), (2, .long (lZ w)), (4, .long (lZ _)), (6, .int (iZ ((0 : Nat) : Int)))]) (hjo (lp n 0 0 (by omega) rfl)) ⟨rfl, rfl, rfl, rfl, rfl, trivial⟩
def shT (σ : St) (t : Nat) : Nat → Int
  | 0 => 0
  | o + 1 => shT σ t o + if o + 1 ≠ t ∧ σ 2 t ≤ σ 2 (o + 1) then shaI (σ 0 (o + 1)) (σ 6 (o + 1)) (σ 4 (o + 1)) (σ 1 (o + 1)) (σ 5 (o + 1)) else 0
def shI (σ : St) : Nat → Int
  | 0 => 0
  | i + 1 => shI σ i + shaI (σ 12 (i + 1)) 0 1 (σ 13 (i + 1)) 1
theorem shaI_b {own spin many per inn : Int} (h0 : 1 ≤ own ∧ own ≤ 1000) (h6 : 0 ≤ spin ∧ spin ≤ 1000) (h4 : 1 ≤ many ∧ many ≤ 20) (h1 : 1 ≤ per) (h5 : 1 ≤ inn) : 0 ≤ shaI own spin many per inn ∧ shaI own spin many per inn ≤ 40000000000 := by
  have b5 := loaI_b h0 h6 h4 h1
  have b1 := mulb (a := 1000000) (A := 1000000) (by omega) (show 0 ≤ own + spin ∧ own + spin ≤ 2000 by omega)
  have b2 := divb b1 (show 0 < inn by omega)
  unfold shaI; split <;> omega
theorem shT_b {σ : St} {n m t : Nat} (hO : OK n m σ) : ∀ o : Nat, o ≤ n → 0 ≤ shT σ t o ∧ shT σ t o ≤ (o : Int) * 40000000000
  | 0, _ => ⟨Int.le_refl 0, by show (0 : Int) ≤ _; omega⟩
  | o + 1, h => by
    have ih := shT_b hO (t := t) o (by omega)
    obtain ⟨h0, h1, h2, h3, h4, h5, h6, -⟩ := hO.2.2.1 (o + 1) (by omega) h
    have := shaI_b h0 h6 h4 h1.1 h5.1
    unfold shT
    split <;> omega
theorem shI_b {σ : St} {n m : Nat} (hO : OK n m σ) : ∀ i : Nat, i ≤ m → 0 ≤ shI σ i ∧ shI σ i ≤ (i : Int) * 40000000000
  | 0, _ => ⟨Int.le_refl 0, by show (0 : Int) ≤ _; omega⟩
  | i + 1, h => by
    have ih := shI_b hO i (by omega)
    obtain ⟨h0, h1⟩ := hO.2.2.2 (i + 1) (by omega) h
    have := shaI_b (spin := 0) (many := 1) (inn := 1) h0 (by omega) (by omega) h1.1 (by omega)
    unfold shI
    omega
/-- millionths that a part takes at least of any span -/
theorem sha_le {own spin many per inn jit w : Int} (h0 : 1 ≤ own) (h6 : 0 ≤ spin) (h4 : 1 ≤ many) (h1 : 1 ≤ per) (h5 : 1 ≤ inn) (hj : 0 ≤ jit) (hw : 0 ≤ w) : w * shaI own spin many per inn ≤ 1000000 * (acts inn many jit per w * (own + spin)) := by
  have hc : 0 ≤ 1000000 * (own + spin) := by omega
  have a1 : shaI own spin many per inn ≤ 1000000 * (own + spin) / inn := by unfold shaI; split <;> omega
  have a2 : shaI own spin many per inn ≤ loaI own spin many per := by unfold shaI; split <;> omega
  have s0 : 0 ≤ shaI own spin many per inn := by
    have q1 := Int.ediv_nonneg hc (show 0 ≤ inn by omega)
    have q2 : 0 ≤ loaI own spin many per := Int.ediv_nonneg (Int.mul_nonneg (by omega) (by omega)) (by omega)
    unfold shaI; split <;> omega
  generalize shaI own spin many per inn = s at *
  have d1 : s * inn ≤ 1000000 * (own + spin) := by
    have := Int.mul_le_mul_of_nonneg_right a1 (show 0 ≤ inn by omega)
    exact Int.le_trans this (Int.ediv_mul_le _ (by omega))
  have d2 : s * per ≤ 1000000 * many * (own + spin) := by
    have := Int.mul_le_mul_of_nonneg_right a2 (show 0 ≤ per by omega)
    exact Int.le_trans this (Int.ediv_mul_le _ (by omega))
  have u1 := upw_ge (d := w) h5
  have u2 := upw_ge (d := w + jit) h1
  have v1 := (upw_b (d := w) (D := w) (b := inn) ⟨hw, Int.le_refl w⟩ h5).1
  have v2 := (upw_b (d := w + jit) (D := w + jit) (b := per) ⟨by omega, Int.le_refl _⟩ h1).1
  have e1 : w * s ≤ 1000000 * (upw w inn * (own + spin)) := by
    have q1 := Int.mul_le_mul_of_nonneg_right u1 s0
    have q2 := Int.mul_le_mul_of_nonneg_left d1 v1
    have q3 : upw w inn * inn * s = upw w inn * (s * inn) := by rw [Int.mul_assoc, Int.mul_comm inn]
    have q4 : upw w inn * (1000000 * (own + spin)) = 1000000 * (upw w inn * (own + spin)) := Int.mul_left_comm _ _ _
    omega
  have e2 : w * s ≤ 1000000 * (many * upw (w + jit) per * (own + spin)) := by
    have q0 := Int.mul_le_mul_of_nonneg_right (show w ≤ w + jit by omega) s0
    have q1 := Int.mul_le_mul_of_nonneg_right u2 s0
    have q2 := Int.mul_le_mul_of_nonneg_left d2 v2
    have q3 : upw (w + jit) per * per * s = upw (w + jit) per * (s * per) := by rw [Int.mul_assoc, Int.mul_comm per]
    have q4 : upw (w + jit) per * (1000000 * many * (own + spin)) = 1000000 * (many * upw (w + jit) per * (own + spin)) := by
      rw [Int.mul_left_comm, ← Int.mul_assoc, ← Int.mul_assoc, Int.mul_assoc 1000000, Int.mul_comm many, Int.mul_assoc (1000000 : Int), Int.mul_comm (upw (w + jit) per) many]
    omega
  unfold acts
  split
  · exact e2
  · exact e1
theorem shr_le {σ : St} {n m t : Nat} (hO : OK n m σ) {w : Int} (hw : 0 ≤ w) : w * (shT σ t n + shI σ m) ≤ 1000000 * (takT σ t n w + takI σ m w) := by
  have h1 : ∀ o : Nat, o ≤ n → w * shT σ t o ≤ 1000000 * takT σ t o w := by
    intro o
    induction o with
    | zero => intro _; show w * 0 ≤ 1000000 * 0; omega
    | succ o ih =>
      intro ho
      have ih := ih (by omega)
      obtain ⟨h0, h1, h2, h3, h4, h5, h6, -⟩ := hO.2.2.1 (o + 1) (by omega) ho
      show w * (shT σ t o + _) ≤ 1000000 * (takT σ t o w + _)
      rw [Int.mul_add, Int.mul_add]
      split
      · have := sha_le (jit := σ 3 (o + 1)) h0.1 h6.1 h4.1 h1.1 h5.1 h3.1 hw
        have e : 1000000 * (actT σ (o + 1) w * cosT σ (o + 1)) = 1000000 * (acts (σ 5 (o + 1)) (σ 4 (o + 1)) (σ 3 (o + 1)) (σ 1 (o + 1)) w * (σ 0 (o + 1) + σ 6 (o + 1))) := rfl
        rw [e]; omega
      · omega
  have h2 : ∀ i : Nat, i ≤ m → w * shI σ i ≤ 1000000 * takI σ i w := by
    intro i
    induction i with
    | zero => intro _; show w * 0 ≤ 1000000 * 0; omega
    | succ i ih =>
      intro hi
      have ih := ih (by omega)
      obtain ⟨h0, h1⟩ := hO.2.2.2 (i + 1) (by omega) hi
      show w * (shI σ i + _) ≤ 1000000 * (takI σ i w + _)
      rw [Int.mul_add, Int.mul_add]
      have := sha_le (own := σ 12 (i + 1)) (spin := 0) (many := 1) (per := σ 13 (i + 1)) (inn := 1) (jit := 0) h0.1 (by omega) (by omega) h1.1 (by omega) (by omega) hw
      rw [acts_1 h1.1 hw, Int.add_zero] at this
      omega
  have := h1 n (Nat.le_refl n)
  have := h2 m (Nat.le_refl m)
  rw [Int.mul_add, Int.mul_add]; omega
set_option maxRecDepth 100000 in
set_option maxHeartbeats 4000000 in
theorem c_leastShareAbove {l : Launch} {G : Gt} {B : Nat} {h : hF} {AD : Nat → Nat} {σ : St} {n m : Nat} (hC : Cr G h AD σ n m) (hO : OK n m σ) {t : Nat} (ht : 1 ≤ t ∧ t ≤ n) : Ct l G B yX0_leastShareAbove cX0_leastShareAbove 6 (some .long) 4 0 0 [.ref (AD 0), .ref (AD (20 + 4 * t))] h (fun v h' => v = .long (lZ (shT σ t n + shI σ m)) ∧ h = h') := by
  refine Ct.of (by decide) (Nat.le_of_ble_eq_true rfl) ?_
  intro p e s m9 below meth c A hX hR hin
  have hn16 := hO.1
  have hm8 := hO.2.1
  have h_C := hC.2.1.1
  have hTL := hC.2.2.1
  have hIL := hC.2.2.2.1
  have hTL9 := hTL
  obtain ⟨mcT, capT, gT, h_TL, -⟩ := hTL9
  have hIL9 := hIL
  obtain ⟨mcI, capI, gI9, h_IL, -⟩ := hIL9
  have h_T := hC.task ht
  refine J_abs (J0 := J p l e _ s m9 _ below meth c _ _ G A) ?_
  intro JX hji hjo
  have li : ∀ (d o : Nat) (x : Int), d + o = m → x = shT σ t n + shI σ o → JX 0 0 57 [(0, .ref (AD 0)), (1, .ref (AD (20 + 4 * t))), (2, .long (lZ x)), (4, .int (iZ ((o : Nat) : Int)))] [] h := by
    intro d
    induction d with
    | zero =>
      intro o x hd hx
      refine hji ?_
      refine j_iload hX dX0_leastShareAbove_57 rfl ?_
      refine j_aload_n hX dX0_leastShareAbove_59 rfl ?_
      refine j_get hX fl_X0_18_2 dX0_leastShareAbove_60 h_C (by rfl) ?_
      refine j_callV hX cv_X0_25 (c_size hIL) dX0_leastShareAbove_63 h_IL rfl rfl (by exact ⟨Nat.le_of_ble_eq_true rfl, Nat.le_of_ble_eq_true rfl⟩) (by exact ⟨Nat.le_of_ble_eq_true rfl, Nat.le_of_ble_eq_true rfl⟩) (by exact Nat.le_of_ble_eq_true rfl) (fun v63 h63 hp63 => ?_) rfl
      obtain ⟨rfl, rfl⟩ := hp63
      refine j_icmp_ge hX 93 dX0_leastShareAbove_66 (by decide) (by omega) (by omega) (fun c66 => ?_) (fun c66 => absurd c66 (by omega))
      refine j_lload_n hX dX0_leastShareAbove_93 rfl ?_
      exact j_lret hX hR dX0_leastShareAbove_94 ⟨by rw [hx, show o = m by omega], rfl⟩
    | succ d ih =>
      intro o x hd hx
      have hOi := hO.2.2.2 (o + 1) (by omega) (by omega)
      have h_I : h (AD (101 + o)) = some (.inr (4, IF σ (o + 1))) := by have z9 := hC.intr (i := o + 1) ⟨by omega, by omega⟩; rw [show 100 + (o + 1) = 101 + o by omega] at z9; exact z9
      refine hji ?_
      refine j_iload hX dX0_leastShareAbove_57 rfl ?_
      refine j_aload_n hX dX0_leastShareAbove_59 rfl ?_
      refine j_get hX fl_X0_18_2 dX0_leastShareAbove_60 h_C (by rfl) ?_
      refine j_callV hX cv_X0_25 (c_size hIL) dX0_leastShareAbove_63 h_IL rfl rfl (by exact ⟨Nat.le_of_ble_eq_true rfl, Nat.le_of_ble_eq_true rfl⟩) (by exact ⟨Nat.le_of_ble_eq_true rfl, Nat.le_of_ble_eq_true rfl⟩) (by exact Nat.le_of_ble_eq_true rfl) (fun v63 h63 hp63 => ?_) rfl
      obtain ⟨rfl, rfl⟩ := hp63
      refine j_icmp_ge hX 93 dX0_leastShareAbove_66 (by decide) (by omega) (by omega) (fun c66 => absurd c66 (by omega)) (fun c66 => ?_)
      refine j_lload_n hX dX0_leastShareAbove_69 rfl ?_
      refine j_aload_n hX dX0_leastShareAbove_70 rfl ?_
      refine j_get hX fl_X0_18_2 dX0_leastShareAbove_71 h_C (by rfl) ?_
      refine j_iload hX dX0_leastShareAbove_74 rfl ?_
      refine j_callV hX cv_X0_29 (c_get hIL (by omega) (i := o) (by omega) rfl) dX0_leastShareAbove_76 h_IL rfl rfl (by exact ⟨Nat.le_of_ble_eq_true rfl, Nat.le_of_ble_eq_true rfl⟩) (by exact ⟨Nat.le_of_ble_eq_true rfl, Nat.le_of_ble_eq_true rfl⟩) (by exact Nat.le_of_ble_eq_true rfl) (fun v76 h76 hp76 => ?_) rfl
      obtain ⟨rfl, rfl⟩ := hp76
      refine j_castS hX ck_X0_70 dX0_leastShareAbove_79 h_I rfl ?_
      refine j_callV hX cv_X0_85 (c_share4 hOi.P (IF σ (o + 1)) h_I rfl rfl rfl rfl rfl rfl) dX0_leastShareAbove_82 h_I rfl rfl (by exact ⟨Nat.le_of_ble_eq_true rfl, Nat.le_of_ble_eq_true rfl⟩) (by exact ⟨Nat.le_of_ble_eq_true rfl, Nat.le_of_ble_eq_true rfl⟩) (by exact Nat.le_of_ble_eq_true rfl) (fun v82 h82 hp82 => ?_) rfl
      obtain ⟨rfl, rfl⟩ := hp82
      refine j_ladd hX dX0_leastShareAbove_85 ?_
      refine j_lstore_n hX dX0_leastShareAbove_86 (by decide) ?_
      refine j_iinc hX dX0_leastShareAbove_87 rfl (by decide) ?_
      refine j_goto hX 57 dX0_leastShareAbove_90 (by decide) ?_
      exact j_at (L' := [(0, .ref (AD 0)), (1, .ref (AD (20 + 4 * t))), (2, .long (lZ _)), (4, .int (iZ (((o + 1) : Nat) : Int)))]) (hjo (ih (o + 1) _ (by omega) (by rw [hx]; show _ = _ + (shI σ o + _); omega))) ⟨rfl, rfl, rfl, rfl, trivial⟩
  have lp : ∀ (d o : Nat) (x : Int), d + o = n → x = shT σ t o → JX 0 0 5 [(0, .ref (AD 0)), (1, .ref (AD (20 + 4 * t))), (2, .long (lZ x)), (4, .int (iZ ((o : Nat) : Int)))] [] h := by
    intro d
    induction d with
    | zero =>
      intro o x hd hx
      refine hji ?_
      refine j_iload hX dX0_leastShareAbove_5 rfl ?_
      refine j_aload_n hX dX0_leastShareAbove_7 rfl ?_
      refine j_get hX fl_X0_12_2 dX0_leastShareAbove_8 h_C (by rfl) ?_
      refine j_callV hX cv_X0_25 (c_size hTL) dX0_leastShareAbove_11 h_TL rfl rfl (by exact ⟨Nat.le_of_ble_eq_true rfl, Nat.le_of_ble_eq_true rfl⟩) (by exact ⟨Nat.le_of_ble_eq_true rfl, Nat.le_of_ble_eq_true rfl⟩) (by exact Nat.le_of_ble_eq_true rfl) (fun v11 h11 hp11 => ?_) rfl
      obtain ⟨rfl, rfl⟩ := hp11
      refine j_icmp_ge hX 54 dX0_leastShareAbove_14 (by decide) (by omega) (by omega) (fun c14 => ?_) (fun c14 => absurd c14 (by omega))
      refine j_iconst hX dX0_leastShareAbove_54 ?_
      refine j_istore hX dX0_leastShareAbove_55 (by decide) ?_
      exact j_at (L' := [(0, .ref (AD 0)), (1, .ref (AD (20 + 4 * t))), (2, .long (lZ x)), (4, .int (iZ ((0 : Nat) : Int)))]) (hjo (li m 0 x (by omega) (by rw [hx, show o = n by omega]; show _ = _ + 0; omega))) ⟨rfl, rfl, rfl, rfl, trivial⟩
    | succ d ih =>
      intro o x hd hx
      have hOt := hO.2.2.1 (o + 1) (by omega) (by omega)
      have h_O := hC.task (t := o + 1) ⟨by omega, by omega⟩
      have e9 : 20 + 4 * (o + 1) = 24 + 4 * o := by omega
      refine hji ?_
      refine j_iload hX dX0_leastShareAbove_5 rfl ?_
      refine j_aload_n hX dX0_leastShareAbove_7 rfl ?_
      refine j_get hX fl_X0_12_2 dX0_leastShareAbove_8 h_C (by rfl) ?_
      refine j_callV hX cv_X0_25 (c_size hTL) dX0_leastShareAbove_11 h_TL rfl rfl (by exact ⟨Nat.le_of_ble_eq_true rfl, Nat.le_of_ble_eq_true rfl⟩) (by exact ⟨Nat.le_of_ble_eq_true rfl, Nat.le_of_ble_eq_true rfl⟩) (by exact Nat.le_of_ble_eq_true rfl) (fun v11 h11 hp11 => ?_) rfl
      obtain ⟨rfl, rfl⟩ := hp11
      refine j_icmp_ge hX 54 dX0_leastShareAbove_14 (by decide) (by omega) (by omega) (fun c14 => absurd c14 (by omega)) (fun c14 => ?_)
      refine j_aload_n hX dX0_leastShareAbove_17 rfl ?_
      refine j_get hX fl_X0_12_2 dX0_leastShareAbove_18 h_C (by rfl) ?_
      refine j_iload hX dX0_leastShareAbove_21 rfl ?_
      refine j_callV hX cv_X0_29 (c_get hTL (by omega) (i := o) (x := AD (20 + 4 * (o + 1))) (by omega) (by rw [e9])) dX0_leastShareAbove_23 h_TL rfl rfl (by exact ⟨Nat.le_of_ble_eq_true rfl, Nat.le_of_ble_eq_true rfl⟩) (by exact ⟨Nat.le_of_ble_eq_true rfl, Nat.le_of_ble_eq_true rfl⟩) (by exact Nat.le_of_ble_eq_true rfl) (fun v23 h23 hp23 => ?_) rfl
      obtain ⟨rfl, rfl⟩ := hp23
      refine j_castS hX ck_X0_33 dX0_leastShareAbove_26 h_O rfl ?_
      refine j_astore hX dX0_leastShareAbove_29 (by decide) ?_
      refine j_aload hX dX0_leastShareAbove_31 rfl ?_
      refine j_aload_n hX dX0_leastShareAbove_33 rfl ?_
      refine j_callV hX cv_X0_66 (c_isAbove hC hO (o := (o + 1)) (t := t) ⟨by omega, by omega⟩ ht) dX0_leastShareAbove_34 h_O rfl rfl (by exact ⟨Nat.le_of_ble_eq_true rfl, Nat.le_of_ble_eq_true rfl⟩) (by exact ⟨Nat.le_of_ble_eq_true rfl, Nat.le_of_ble_eq_true rfl⟩) (by exact Nat.le_of_ble_eq_true rfl) (fun v34 h34 hp34 => ?_) rfl
      obtain ⟨⟨y34, rfl, hy34⟩, rfl⟩ := hp34
      refine j_if_eq hX 48 dX0_leastShareAbove_37 (by decide) (by omega) (fun c37 => ?_) (fun c37 => ?_)
      · refine j_iinc hX dX0_leastShareAbove_48 rfl (by decide) ?_
        refine j_goto hX 5 dX0_leastShareAbove_51 (by decide) ?_
        exact j_at (L' := [(0, .ref (AD 0)), (1, .ref (AD (20 + 4 * t))), (2, .long (lZ _)), (4, .int (iZ (((o + 1) : Nat) : Int)))]) (hjo (ih (o + 1) _ (by omega) (by rw [hx]; show _ = shT σ t o + _; rw [if_neg (by omega)]; omega))) ⟨rfl, rfl, rfl, rfl, trivial⟩
      · refine j_lload_n hX dX0_leastShareAbove_40 rfl ?_
        refine j_aload hX dX0_leastShareAbove_41 rfl ?_
        refine j_callU hX cu_X0_82_6 (c_share6 hOt.P (TF AD σ (o + 1)) h_O rfl rfl rfl rfl rfl rfl) dX0_leastShareAbove_43 h_O rfl rfl (by exact ⟨Nat.le_of_ble_eq_true rfl, Nat.le_of_ble_eq_true rfl⟩) (by exact ⟨Nat.le_of_ble_eq_true rfl, Nat.le_of_ble_eq_true rfl⟩) (by exact Nat.le_of_ble_eq_true rfl) (fun v43 h43 hp43 => ?_) rfl
        obtain ⟨rfl, rfl⟩ := hp43
        refine j_ladd hX dX0_leastShareAbove_46 ?_
        refine j_lstore_n hX dX0_leastShareAbove_47 (by decide) ?_
        refine j_iinc hX dX0_leastShareAbove_48 rfl (by decide) ?_
        refine j_goto hX 5 dX0_leastShareAbove_51 (by decide) ?_
        exact j_at (L' := [(0, .ref (AD 0)), (1, .ref (AD (20 + 4 * t))), (2, .long (lZ _)), (4, .int (iZ (((o + 1) : Nat) : Int)))]) (hjo (ih (o + 1) _ (by omega) (by rw [hx]; show _ = shT σ t o + _; rw [if_pos (by omega)]; try rfl))) ⟨rfl, rfl, rfl, rfl, trivial⟩
  refine hji ?_
  refine j_lconst0 hX dX0_leastShareAbove_0 ?_
  refine j_lstore_n hX dX0_leastShareAbove_1 (by decide) ?_
  refine j_iconst hX dX0_leastShareAbove_2 ?_
  refine j_istore hX dX0_leastShareAbove_3 (by decide) ?_
  exact j_at (L' := [(0, .ref (AD 0)), (1, .ref (AD (20 + 4 * t))), (2, .long (lZ _)), (4, .int (iZ ((0 : Nat) : Int)))]) (hjo (lp n 0 0 (by omega) rfl)) ⟨rfl, rfl, rfl, rfl, trivial⟩
