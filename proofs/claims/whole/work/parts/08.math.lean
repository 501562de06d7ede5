/-! NUMBERS: what the sums are -/
theorem mulb {a b A B : Int} (ha : 0 ≤ a ∧ a ≤ A) (hb : 0 ≤ b ∧ b ≤ B) : 0 ≤ a * b ∧ a * b ≤ A * B :=
  ⟨Int.mul_nonneg ha.1 hb.1, Int.mul_le_mul ha.2 hb.2 hb.1 (Int.le_trans ha.1 ha.2)⟩
theorem divb {a b A : Int} (ha : 0 ≤ a ∧ a ≤ A) (hb : 0 < b) : 0 ≤ a / b ∧ a / b ≤ A :=
  ⟨Int.ediv_nonneg ha.1 (by omega), Int.le_trans (Int.ediv_le_self _ ha.1) ha.2⟩
/-- d / b upwards -/
def upw (d b : Int) : Int := (d + b - 1) / b
theorem upw_b {d b D : Int} (hd : 0 ≤ d ∧ d ≤ D) (hb : 1 ≤ b) : 0 ≤ upw d b ∧ upw d b ≤ D := by
  unfold upw
  refine ⟨Int.ediv_nonneg (by omega) (by omega), ?_⟩
  have h : (d + b - 1) / b ≤ d := by
    by_cases h0 : d = 0
    · subst h0
      rw [Int.ediv_eq_zero_of_lt (by omega) (by omega)]
      omega
    · have h1 : 0 ≤ (d - 1) * (b - 1) := Int.mul_nonneg (by omega) (by omega)
      have h2 : (d - 1) * (b - 1) = d * b - d - b + 1 := by
        rw [Int.sub_mul, Int.mul_sub, Int.mul_sub]; omega
      have h3 : d + b - 1 ≤ d * b := by omega
      exact Int.ediv_le_of_le_mul (by omega) h3
  omega
theorem upw_mono {d d' b : Int} (h : d ≤ d') (hb : 1 ≤ b) : upw d b ≤ upw d' b := by
  unfold upw; exact Int.ediv_le_ediv (by omega) (by omega)
theorem upw_ge {d b : Int} (hb : 1 ≤ b) : d ≤ upw d b * b := by
  unfold upw
  have h1 := Int.emod_nonneg (d + b - 1) (show b ≠ 0 by omega)
  have h2 := Int.emod_lt_of_pos (d + b - 1) (show 0 < b by omega)
  have h3 := Int.mul_ediv_add_emod (d + b - 1) b
  rw [Int.mul_comm] at h3
  omega
theorem upw_le {d b k : Int} (hb : 1 ≤ b) (h : d ≤ k * b) : upw d b ≤ k := by
  unfold upw
  have h1 : d + b - 1 < (k + 1) * b := by rw [Int.add_mul]; omega
  have h2 : (d + b - 1) / b < k + 1 := Int.ediv_lt_of_lt_mul (by omega) h1
  omega
/-- the same, by the remainder -/
theorem upw_rem {d b : Int} (hb : 1 ≤ b) : (if d % b = 0 then d / b else d / b + 1) = upw d b := by
  have h1 := Int.emod_nonneg d (show b ≠ 0 by omega)
  have h2 := Int.emod_lt_of_pos d (show 0 < b by omega)
  have h3 := Int.mul_ediv_add_emod d b
  unfold upw
  split
  · rename_i h0
    have : d + b - 1 = (b - 1) + (d / b) * b := by rw [Int.mul_comm]; omega
    rw [this, Int.add_mul_ediv_right _ _ (by omega), Int.ediv_eq_zero_of_lt (a := b - 1) (b := b) (by omega) (by omega)]
    omega
  · rename_i h0
    have : d + b - 1 = (d % b - 1) + (d / b + 1) * b := by rw [Int.add_mul, Int.mul_comm (d / b)]; omega
    rw [this, Int.add_mul_ediv_right _ _ (by omega), Int.ediv_eq_zero_of_lt (a := d % b - 1) (b := b) (by omega) (by omega)]
    omega
/-- the state: fields by number, places from 1 on. 0 OWN, 1 PERIOD, 2 RANK, 3 JITTER, 4 how many at a time, 5 INNER, 6 SPIN, 7 phase, 8 how many sections, 9 resources, 10 lengths (10 t - 10 + k), 11 OWN of interrupts, 12 PERIOD of interrupts -/
abbrev St : Type := Nat → Nat → Int
def cosT (σ : St) (t : Nat) : Int := σ 0 t + σ 6 t
def acts (inn many jit per w : Int) : Int := if many * upw (w + jit) per < upw w inn then many * upw (w + jit) per else upw w inn
def late (inn many jit per q : Int) : Int := if (0 : Int) < (if q / many * per - jit < q * inn then q * inn else q / many * per - jit) then (if q / many * per - jit < q * inn then q * inn else q / many * per - jit) else 0
def actT (σ : St) (t : Nat) (w : Int) : Int := acts (σ 5 t) (σ 4 t) (σ 3 t) (σ 1 t) w
def latT (σ : St) (t : Nat) (q : Int) : Int := late (σ 5 t) (σ 4 t) (σ 3 t) (σ 1 t) q
/-- what the fields may hold -/
def OKt (σ : St) (t : Nat) : Prop := (1 ≤ σ 0 t ∧ σ 0 t ≤ 1000) ∧ (1 ≤ σ 1 t ∧ σ 1 t ≤ 20000) ∧ (0 ≤ σ 2 t ∧ σ 2 t ≤ 255) ∧ (0 ≤ σ 3 t ∧ σ 3 t ≤ 20000) ∧ (1 ≤ σ 4 t ∧ σ 4 t ≤ 20) ∧ (1 ≤ σ 5 t ∧ σ 5 t ≤ 20000) ∧ (0 ≤ σ 6 t ∧ σ 6 t ≤ 1000) ∧ (-1 ≤ σ 7 t ∧ σ 7 t < σ 1 t) ∧ (0 ≤ σ 8 t ∧ σ 8 t ≤ 10) ∧ ∀ k : Nat, (k : Int) < σ 8 t → (1 ≤ σ 9 (10 * t - 10 + k) ∧ σ 9 (10 * t - 10 + k) ≤ 32) ∧ (1 ≤ σ 10 (10 * t - 10 + k) ∧ σ 10 (10 * t - 10 + k) ≤ 1000)
def OKi (σ : St) (i : Nat) : Prop := (1 ≤ σ 11 i ∧ σ 11 i ≤ 1000) ∧ (1 ≤ σ 12 i ∧ σ 12 i ≤ 20000)
def OK (n m : Nat) (σ : St) : Prop := n ≤ 16 ∧ m ≤ 8 ∧ (∀ t : Nat, 1 ≤ t → t ≤ n → OKt σ t) ∧ ∀ i : Nat, 1 ≤ i → i ≤ m → OKi σ i
theorem acts_b {inn many jit per w : Int} (hi : 1 ≤ inn) (hm : 1 ≤ many ∧ many ≤ 20) (hj : 0 ≤ jit ∧ jit ≤ 20000) (hp : 1 ≤ per) {W : Int} (hw : 0 ≤ w ∧ w ≤ W) : 0 ≤ acts inn many jit per w ∧ acts inn many jit per w ≤ W := by
  have h1 := upw_b hw hi
  have h2 := upw_b (d := w + jit) (D := W + 20000) (b := per) (by omega) hp
  have h3 := mulb (a := many) (A := 20) (by omega) h2
  unfold acts
  split <;> omega
theorem late_b {inn many jit per q : Int} (hi : 1 ≤ inn ∧ inn ≤ 20000) (hm : 1 ≤ many) (hj : 0 ≤ jit ∧ jit ≤ 20000) (hp : 1 ≤ per ∧ per ≤ 20000) (hq : 0 ≤ q ∧ q ≤ 500) : 0 ≤ late inn many jit per q ∧ late inn many jit per q ≤ 10000000 := by
  have h1 := mulb hq (show 0 ≤ inn ∧ inn ≤ 20000 by omega)
  have h2 := divb hq (show 0 < many by omega)
  have h3 := mulb h2 (show 0 ≤ per ∧ per ≤ 20000 by omega)
  unfold late
  (repeat' split) <;> omega
