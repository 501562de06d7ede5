/-! NUMBERS: what the sums are -/
theorem mulb {a b A B : Int} (ha : 0 ≤ a ∧ a ≤ A) (hb : 0 ≤ b ∧ b ≤ B) : 0 ≤ a * b ∧ a * b ≤ A * B :=
  ⟨Int.mul_nonneg ha.1 hb.1, Int.mul_le_mul ha.2 hb.2 hb.1 (Int.le_trans ha.1 ha.2)⟩
theorem divb {a b A : Int} (ha : 0 ≤ a ∧ a ≤ A) (hb : 0 < b) : 0 ≤ a / b ∧ a / b ≤ A :=
  ⟨Int.ediv_nonneg ha.1 (by omega), Int.le_trans (Int.ediv_le_self _ ha.1) ha.2⟩
/-- d / b upwards -/
def upw (d b : Int) : Int := (d + b - 1) / b
theorem upw_b {d b D : Int} (hd : 0 ≤ d ∧ d ≤ D) (hb : 1 ≤ b) : 0 ≤ upw d b ∧ upw d b ≤ D := by
  unfold upw
  refine ⟨Int.ediv_nonneg (by omega) (by omega), ?_⟩
  have h : (d + b - 1) / b ≤ d := by
    by_cases h0 : d = 0
    · subst h0
      rw [Int.ediv_eq_zero_of_lt (by omega) (by omega)]
      omega
    · have h1 : 0 ≤ (d - 1) * (b - 1) := Int.mul_nonneg (by omega) (by omega)
      have h2 : (d - 1) * (b - 1) = d * b - d - b + 1 := by
        rw [Int.sub_mul, Int.mul_sub, Int.mul_sub]; omega
      have h3 : d + b - 1 ≤ d * b := by omega
      exact Int.ediv_le_of_le_mul (by omega) h3
  omega
theorem upw_mono {d d' b : Int} (h : d ≤ d') (hb : 1 ≤ b) : upw d b ≤ upw d' b := by
  unfold upw; exact Int.ediv_le_ediv (by omega) (by omega)
theorem upw_ge {d b : Int} (hb : 1 ≤ b) : d ≤ upw d b * b := by
  unfold upw
  have h1 := Int.emod_nonneg (d + b - 1) (show b ≠ 0 by omega)
  have h2 := Int.emod_lt_of_pos (d + b - 1) (show 0 < b by omega)
  have h3 := Int.mul_ediv_add_emod (d + b - 1) b
  rw [Int.mul_comm] at h3
  omega
theorem upw_le {d b k : Int} (hb : 1 ≤ b) (h : d ≤ k * b) : upw d b ≤ k := by
  unfold upw
  have h1 : d + b - 1 < (k + 1) * b := by rw [Int.add_mul]; omega
  have h2 : (d + b - 1) / b < k + 1 := Int.ediv_lt_of_lt_mul (by omega) h1
  omega
/-- the same, by the remainder -/
theorem upw_rem {d b : Int} (hb : 1 ≤ b) : (if d % b = 0 then d / b else d / b + 1) = upw d b := by
  have h1 := Int.emod_nonneg d (show b ≠ 0 by omega)
  have h2 := Int.emod_lt_of_pos d (show 0 < b by omega)
  have h3 := Int.mul_ediv_add_emod d b
  unfold upw
  split
  · rename_i h0
    have : d + b - 1 = (b - 1) + (d / b) * b := by rw [Int.mul_comm]; omega
    rw [this, Int.add_mul_ediv_right _ _ (by omega), Int.ediv_eq_zero_of_lt (a := b - 1) (b := b) (by omega) (by omega)]
    omega
  · rename_i h0
    have : d + b - 1 = (d % b - 1) + (d / b + 1) * b := by rw [Int.add_mul, Int.mul_comm (d / b)]; omega
    rw [this, Int.add_mul_ediv_right _ _ (by omega), Int.ediv_eq_zero_of_lt (a := d % b - 1) (b := b) (by omega) (by omega)]
    omega
/-- the state: fields by number, places from 1 on. 0 OWN, 1 PERIOD, 2 RANK, 3 JITTER, 4 how many at a time, 5 INNER, 6 SPIN, 7 phase, 8 how many sections, 9 resources, 10 lengths (10 t - 10 + k), 12 OWN of interrupts, 13 PERIOD of interrupts (the reference's own field numbers) -/
abbrev St : Type := Nat → Nat → Int
def cosT (σ : St) (t : Nat) : Int := σ 0 t + σ 6 t
def acts (inn many jit per w : Int) : Int := if many * upw (w + jit) per < upw w inn then many * upw (w + jit) per else upw w inn
def late (inn many jit per q : Int) : Int := if (0 : Int) < (if q / many * per - jit < q * inn then q * inn else q / many * per - jit) then (if q / many * per - jit < q * inn then q * inn else q / many * per - jit) else 0
def actT (σ : St) (t : Nat) (w : Int) : Int := acts (σ 5 t) (σ 4 t) (σ 3 t) (σ 1 t) w
def latT (σ : St) (t : Nat) (q : Int) : Int := late (σ 5 t) (σ 4 t) (σ 3 t) (σ 1 t) q
/-- what the fields may hold -/
def OKt (σ : St) (t : Nat) : Prop := (1 ≤ σ 0 t ∧ σ 0 t ≤ 1000) ∧ (1 ≤ σ 1 t ∧ σ 1 t ≤ 20000) ∧ (0 ≤ σ 2 t ∧ σ 2 t ≤ 255) ∧ (0 ≤ σ 3 t ∧ σ 3 t ≤ 20000) ∧ (1 ≤ σ 4 t ∧ σ 4 t ≤ 20) ∧ (1 ≤ σ 5 t ∧ σ 5 t ≤ 20000) ∧ (0 ≤ σ 6 t ∧ σ 6 t ≤ 1000) ∧ (-1 ≤ σ 7 t ∧ σ 7 t < σ 1 t) ∧ (0 ≤ σ 8 t ∧ σ 8 t ≤ 10) ∧ ∀ k : Nat, (k : Int) < σ 8 t → (1 ≤ σ 9 (10 * t - 10 + k) ∧ σ 9 (10 * t - 10 + k) ≤ 32) ∧ (1 ≤ σ 10 (10 * t - 10 + k) ∧ σ 10 (10 * t - 10 + k) ≤ 1000)
def OKi (σ : St) (i : Nat) : Prop := (1 ≤ σ 12 i ∧ σ 12 i ≤ 1000) ∧ (1 ≤ σ 13 i ∧ σ 13 i ≤ 20000)
def OK (n m : Nat) (σ : St) : Prop := n ≤ 16 ∧ m ≤ 8 ∧ (∀ t : Nat, 1 ≤ t → t ≤ n → OKt σ t) ∧ ∀ i : Nat, 1 ≤ i → i ≤ m → OKi σ i
theorem acts_b {inn many jit per w : Int} (hi : 1 ≤ inn) (hm : 1 ≤ many ∧ many ≤ 20) (hj : 0 ≤ jit ∧ jit ≤ 20000) (hp : 1 ≤ per) {W : Int} (hw : 0 ≤ w ∧ w ≤ W) : 0 ≤ acts inn many jit per w ∧ acts inn many jit per w ≤ W := by
  have h1 := upw_b hw hi
  have h2 := upw_b (d := w + jit) (D := W + 20000) (b := per) (by omega) hp
  have h3 := mulb (a := many) (A := 20) (by omega) h2
  unfold acts
  split <;> omega
theorem late_b {inn many jit per q : Int} (hi : 1 ≤ inn ∧ inn ≤ 20000) (hm : 1 ≤ many) (hj : 0 ≤ jit ∧ jit ≤ 20000) (hp : 1 ≤ per ∧ per ≤ 20000) (hq : 0 ≤ q ∧ q ≤ 500) : 0 ≤ late inn many jit per q ∧ late inn many jit per q ≤ 10000000 := by
  have h1 := mulb hq (show 0 ≤ inn ∧ inn ≤ 20000 by omega)
  have h2 := divb hq (show 0 < many by omega)
  have h3 := mulb h2 (show 0 ≤ per ∧ per ≤ 20000 by omega)
  unfold late
  (repeat' split) <;> omega
/-- a section of a task of a rank not below k, of the resource r -/
def reach (σ : St) (n : Nat) (r k : Int) : Prop := ∃ o j : Nat, 1 ≤ o ∧ o ≤ n ∧ (j : Int) < σ 8 o ∧ k ≤ σ 2 o ∧ σ 9 (10 * o - 10 + j) = r
/-- the greatest of a set, or 0 -/
def isMax (S : Int → Prop) (x : Int) : Prop := (x = 0 ∨ S x) ∧ 0 ≤ x ∧ ∀ y, S y → y ≤ x
theorem isMax.uniq {S : Int → Prop} {x y : Int} (hx : isMax S x) (hy : isMax S y) : x = y := by
  obtain ⟨a1, a2, a3⟩ := hx
  obtain ⟨b1, b2, b3⟩ := hy
  have h1 : x ≤ y := by rcases a1 with h | h; omega; exact b3 _ h
  have h2 : y ≤ x := by rcases b1 with h | h; omega; exact a3 _ h
  omega
theorem isMax.congr {S T : Int → Prop} {x : Int} (h : isMax S x) (e : ∀ y, S y ↔ T y) : isMax T x := ⟨h.1.imp id (fun q => (e _).mp q), h.2.1, fun y hy => h.2.2 y ((e y).mpr hy)⟩
theorem isMax.zero {S : Int → Prop} (h : ∀ y, ¬ S y) : isMax S 0 := ⟨Or.inl rfl, Int.le_refl 0, fun y hy => absurd hy (h y)⟩
theorem isMax.keep {S T : Int → Prop} {x : Int} (h : isMax S x) (h1 : ∀ y, S y → T y) (h2 : ∀ y, T y → S y ∨ y ≤ x) : isMax T x := ⟨h.1.imp id (h1 _), h.2.1, fun y hy => by rcases h2 y hy with q | q; exact h.2.2 y q; exact q⟩
theorem isMax.more {S T : Int → Prop} {x l : Int} (h : isMax S x) (hl : x ≤ l) (h0 : T l) (h2 : ∀ y, T y → S y ∨ y ≤ l) : isMax T l := ⟨Or.inr h0, by have := h.2.1; omega, fun y hy => by rcases h2 y hy with q | q; (have := h.2.2 y q; omega); exact q⟩
/-- sections that may block t -/
def blkS (σ : St) (n t : Nat) (y : Int) : Prop := ∃ o j : Nat, 1 ≤ o ∧ o ≤ n ∧ (j : Int) < σ 8 o ∧ σ 2 o < σ 2 t ∧ reach σ n (σ 9 (10 * o - 10 + j)) (σ 2 t) ∧ y = σ 10 (10 * o - 10 + j)
noncomputable def blk (σ : St) (n t : Nat) : Int := Classical.epsilon (isMax (blkS σ n t))
theorem blk_eq {σ : St} {n t : Nat} {x : Int} (h : isMax (blkS σ n t) x) : x = blk σ n t := h.uniq (Classical.epsilon_spec (p := isMax (blkS σ n t)) ⟨x, h⟩)
/-- what is above t takes in w -/
def takT (σ : St) (t : Nat) : Nat → Int → Int
  | 0, _ => 0
  | o + 1, w => takT σ t o w + if o + 1 ≠ t ∧ σ 2 t ≤ σ 2 (o + 1) then actT σ (o + 1) w * cosT σ (o + 1) else 0
def takI (σ : St) : Nat → Int → Int
  | 0, _ => 0
  | i + 1, w => takI σ i w + upw w (σ 13 (i + 1)) * σ 12 (i + 1)
def nee (σ : St) (n m t : Nat) (B q w : Int) : Int := (q + 1) * cosT σ t + B + takT σ t n w + takI σ m w
/-- the least w from 1 on that is not below what f asks for -/
def isL (f : Int → Int) (w : Int) : Prop := 1 ≤ w ∧ f w ≤ w ∧ ∀ v, 1 ≤ v → f v ≤ v → w ≤ v
/-- .., 0 if there is none up to 40000 -/
noncomputable def spn (f : Int → Int) : Int := Classical.epsilon (fun w : Int => (isL f w ∧ w ≤ 40000) ∨ (w = 0 ∧ ∀ v, 1 ≤ v → v ≤ 40000 → ¬ f v ≤ v))
theorem spn_some {f : Int → Int} {w : Int} (h : isL f w) (hw : w ≤ 40000) : spn f = w := by
  have hs := Classical.epsilon_spec (p := fun w : Int => (isL f w ∧ w ≤ 40000) ∨ (w = 0 ∧ ∀ v, 1 ≤ v → v ≤ 40000 → ¬ f v ≤ v)) ⟨w, Or.inl ⟨h, hw⟩⟩
  show Classical.epsilon _ = w
  generalize Classical.epsilon (fun w : Int => (isL f w ∧ w ≤ 40000) ∨ (w = 0 ∧ ∀ v, 1 ≤ v → v ≤ 40000 → ¬ f v ≤ v)) = x at hs ⊢
  rcases hs with ⟨h1, h2⟩ | ⟨h1, h2⟩
  · have e1 := h1.2.2 w h.1 h.2.1
    have e2 := h.2.2 x h1.1 h1.2.1
    omega
  · exact absurd h.2.1 (h2 w h.1 hw)
theorem spn_none {f : Int → Int} (h : ∀ v, 1 ≤ v → v ≤ 40000 → ¬ f v ≤ v) : spn f = 0 := by
  have hs := Classical.epsilon_spec (p := fun w : Int => (isL f w ∧ w ≤ 40000) ∨ (w = 0 ∧ ∀ v, 1 ≤ v → v ≤ 40000 → ¬ f v ≤ v)) ⟨0, Or.inr ⟨rfl, h⟩⟩
  show Classical.epsilon _ = 0
  generalize Classical.epsilon (fun w : Int => (isL f w ∧ w ≤ 40000) ∨ (w = 0 ∧ ∀ v, 1 ≤ v → v ≤ 40000 → ¬ f v ≤ v)) = x at hs ⊢
  rcases hs with ⟨h1, h2⟩ | ⟨h1, h2⟩
  · exact absurd h1.2.1 (h x h1.1 h2)
  · exact h1
/-- the search over the turns: ANSWER (or -1), its turn and span -/
noncomputable def srch (σ : St) (n m t : Nat) (B : Int) : Nat → Int → Int → Int → Int → Int × Int × Int
  | 0, _, _, _, _ => (-1, 0, 0)
  | k + 1, q, best, tu, sp =>
    if spn (nee σ n m t B q) = 0 then (-1, 0, 0)
    else if spn (nee σ n m t B q) ≤ latT σ t (q + 1) then
      (if best < spn (nee σ n m t B q) - latT σ t q then (if σ 1 t < spn (nee σ n m t B q) - latT σ t q then (-1, 0, 0) else (spn (nee σ n m t B q) - latT σ t q, q, spn (nee σ n m t B q)))
        else (if σ 1 t < best then (-1, 0, 0) else (best, tu, sp)))
    else (if best < spn (nee σ n m t B q) - latT σ t q then srch σ n m t B k (q + 1) (spn (nee σ n m t B q) - latT σ t q) q (spn (nee σ n m t B q)) else srch σ n m t B k (q + 1) best tu sp)
noncomputable def ansF (σ : St) (n m t : Nat) : Int × Int × Int := srch σ n m t (blk σ n t) 500 0 (-1) 0 0
theorem srch_over {σ : St} {n m t : Nat} {B : Int} : ∀ (k : Nat) (q best tu sp : Int), σ 1 t < best → srch σ n m t B k q best tu sp = (-1, 0, 0)
  | 0, _, _, _, _, _ => rfl
  | k + 1, q, best, tu, sp, h => by
    unfold srch
    split
    · rfl
    · split
      · (repeat' split) <;> first | rfl | (exfalso; omega)
      · split
        · exact srch_over k _ _ _ _ (by omega)
        · exact srch_over k _ _ _ _ (by omega)
theorem takT_b {σ : St} {n m t : Nat} (hO : OK n m σ) {w : Int} (hw : 0 ≤ w ∧ w ≤ 1000000) : ∀ o : Nat, o ≤ n → 0 ≤ takT σ t o w ∧ takT σ t o w ≤ (o : Int) * 2000000000
  | 0, _ => ⟨Int.le_refl 0, by show (0 : Int) ≤ _; omega⟩
  | o + 1, h => by
    have ih := takT_b hO (t := t) hw o (by omega)
    obtain ⟨h0, h1, h2, h3, h4, h5, h6, -⟩ := hO.2.2.1 (o + 1) (by omega) h
    have ha : 0 ≤ actT σ (o + 1) w ∧ actT σ (o + 1) w ≤ 1000000 := acts_b h5.1 h4 h3 h1.1 hw
    have hm := mulb ha (show 0 ≤ cosT σ (o + 1) ∧ cosT σ (o + 1) ≤ 2000 by unfold cosT; omega)
    unfold takT
    split <;> omega
theorem takI_b {σ : St} {n m : Nat} (hO : OK n m σ) {w : Int} (hw : 0 ≤ w ∧ w ≤ 1000000) : ∀ i : Nat, i ≤ m → 0 ≤ takI σ i w ∧ takI σ i w ≤ (i : Int) * 1000000000
  | 0, _ => ⟨Int.le_refl 0, by show (0 : Int) ≤ _; omega⟩
  | i + 1, h => by
    have ih := takI_b hO hw i (by omega)
    obtain ⟨h0, h1⟩ := hO.2.2.2 (i + 1) (by omega) h
    have hu := upw_b hw h1.1
    have hm := mulb hu (show 0 ≤ σ 12 (i + 1) ∧ σ 12 (i + 1) ≤ 1000 by omega)
    unfold takI
    omega
theorem acts_mono {inn many jit per w w' : Int} (hi : 1 ≤ inn) (hm : 1 ≤ many) (hp : 1 ≤ per) (h : w ≤ w') : acts inn many jit per w ≤ acts inn many jit per w' := by
  have h1 := upw_mono h hi
  have h2 : upw (w + jit) per ≤ upw (w' + jit) per := upw_mono (by omega) hp
  have h3 := Int.mul_le_mul_of_nonneg_left h2 (show 0 ≤ many by omega)
  unfold acts
  split <;> split <;> omega
theorem takT_mono {σ : St} {n m t : Nat} (hO : OK n m σ) {w w' : Int} (h : w ≤ w') : ∀ o : Nat, o ≤ n → takT σ t o w ≤ takT σ t o w'
  | 0, _ => Int.le_refl 0
  | o + 1, h9 => by
    have ih := takT_mono hO (t := t) h o (by omega)
    obtain ⟨h0, h1, h2, h3, h4, h5, h6, -⟩ := hO.2.2.1 (o + 1) (by omega) h9
    have ha : actT σ (o + 1) w ≤ actT σ (o + 1) w' := acts_mono h5.1 h4.1 h1.1 h
    have hm := Int.mul_le_mul_of_nonneg_right ha (show 0 ≤ cosT σ (o + 1) by unfold cosT; omega)
    unfold takT
    split <;> omega
theorem takI_mono {σ : St} {n m : Nat} (hO : OK n m σ) {w w' : Int} (h : w ≤ w') : ∀ i : Nat, i ≤ m → takI σ i w ≤ takI σ i w'
  | 0, _ => Int.le_refl 0
  | i + 1, h9 => by
    have ih := takI_mono hO h i (by omega)
    obtain ⟨h0, h1⟩ := hO.2.2.2 (i + 1) (by omega) h9
    have hu := upw_mono h h1.1
    have hm := Int.mul_le_mul_of_nonneg_right hu (show 0 ≤ σ 12 (i + 1) by omega)
    unfold takI
    omega
theorem nee_mono {σ : St} {n m t : Nat} (hO : OK n m σ) {B q w w' : Int} (h : w ≤ w') : nee σ n m t B q w ≤ nee σ n m t B q w' := by
  have h1 := takT_mono hO (t := t) h n (Nat.le_refl n)
  have h2 := takI_mono hO h m (Nat.le_refl m)
  unfold nee; omega
theorem nee_b {σ : St} {n m t : Nat} (hO : OK n m σ) (ht : 1 ≤ t ∧ t ≤ n) {B q w : Int} (hB : 0 ≤ B ∧ B ≤ 1000) (hq : 0 ≤ q ∧ q ≤ 500) (hw : 0 ≤ w ∧ w ≤ 1000000) : 1 ≤ nee σ n m t B q w ∧ nee σ n m t B q w ≤ 50000000000 := by
  have h1 := takT_b hO (t := t) hw n (Nat.le_refl n)
  have h2 := takI_b hO hw m (Nat.le_refl m)
  obtain ⟨h0, -, -, -, -, -, h6, -⟩ := hO.2.2.1 t ht.1 ht.2
  have hc : 1 ≤ cosT σ t ∧ cosT σ t ≤ 2000 := by unfold cosT; omega
  have h3 : 0 ≤ q * cosT σ t ∧ q * cosT σ t ≤ 500 * 2000 := mulb hq (by omega)
  have hn := hO.1
  have hm := hO.2.1
  have e : (q + 1) * cosT σ t = q * cosT σ t + cosT σ t := by rw [Int.add_mul, Int.one_mul]
  unfold nee
  omega
theorem nee_succ {σ : St} {n m t : Nat} {B q w : Int} : nee σ n m t B (q + 1) w = nee σ n m t B q w + cosT σ t := by
  have e : (q + 1 + 1) * cosT σ t = (q + 1) * cosT σ t + cosT σ t := by rw [Int.add_mul (q + 1), Int.one_mul]
  unfold nee; omega
theorem late_0 {inn many jit per : Int} (hj : 0 ≤ jit) : late inn many jit per 0 = 0 := by
  unfold late
  rw [Int.zero_mul, Int.zero_ediv, Int.zero_mul]
  (repeat' split) <;> omega
