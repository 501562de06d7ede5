/-! THE RUNS: phases, a microsecond at a time; that they end; how phases are counted -/
def chF (σ : St) (O : Nat → Int) (now : Int) : Nat → Nat
  | 0 => 0
  | t + 1 => if O (t + 1) ≤ now ∧ (chF σ O now t = 0 ∨ σ 2 (chF σ O now t) < σ 2 (t + 1) ∨ (σ 2 (t + 1) = σ 2 (chF σ O now t) ∧ O (t + 1) < O (chF σ O now t))) then t + 1 else chF σ O now t
theorem chF_le (σ : St) (O : Nat → Int) (now : Int) : ∀ t : Nat, chF σ O now t ≤ t
  | 0 => Nat.le_refl 0
  | t + 1 => by have ih := chF_le σ O now t; unfold chF; split <;> omega
theorem chF_zero {σ : St} {O : Nat → Int} {now : Int} : ∀ t : Nat, chF σ O now t = 0 → ∀ o : Nat, 1 ≤ o → o ≤ t → now < O o
  | 0, _, o, h1, h2 => by omega
  | t + 1, h, o, h1, h2 => by
    have ih := chF_zero (σ := σ) (O := O) (now := now) t
    unfold chF at h
    split at h
    · omega
    · rename_i hn
      by_cases e : o = t + 1
      · subst e
        rcases Int.lt_or_le now (O (t + 1)) with q | q
        · exact q
        · exact absurd ⟨q, Or.inl h⟩ hn
      · exact ih h o h1 (by omega)
theorem chF_best {σ : St} {O : Nat → Int} {now : Int} : ∀ t : Nat, chF σ O now t ≠ 0 → O (chF σ O now t) ≤ now ∧ ∀ o : Nat, 1 ≤ o → o ≤ t → O o ≤ now → σ 2 o ≤ σ 2 (chF σ O now t) ∧ (σ 2 o = σ 2 (chF σ O now t) → o = chF σ O now t ∨ O (chF σ O now t) < O o ∨ (O (chF σ O now t) = O o ∧ chF σ O now t < o))
  | 0, h => absurd rfl h
  | t + 1, h => by
    have ih := chF_best (σ := σ) (O := O) (now := now) t
    have hz := chF_zero (σ := σ) (O := O) (now := now) t
    have hle := chF_le σ O now t
    unfold chF at h ⊢
    generalize chF σ O now t = c at ih hz hle h ⊢
    split
    · rename_i hc
      refine ⟨hc.1, fun o h1 h2 h3 => ?_⟩
      by_cases e : o = t + 1
      · subst e; exact ⟨Int.le_refl _, fun _ => Or.inl rfl⟩
      · by_cases hc0 : c = 0
        · have := hz hc0 o h1 (by omega); omega
        · obtain ⟨i1, i2⟩ := ih hc0
          obtain ⟨j1, j2⟩ := i2 o h1 (by omega) h3
          rcases hc.2 with q | q | ⟨q1, q2⟩
          · exact absurd q hc0
          · exact ⟨by omega, fun z => by omega⟩
          · refine ⟨by omega, fun z => ?_⟩
            rcases j2 (by omega) with k | k | k
            · subst k; omega
            · omega
            · omega
    · rename_i hc
      rw [if_neg hc] at h
      obtain ⟨i1, i2⟩ := ih h
      refine ⟨i1, fun o h1 h2 h3 => ?_⟩
      by_cases e : o = t + 1
      · subst e
        have a1 : ¬ σ 2 c < σ 2 (t + 1) := fun z => hc ⟨h3, Or.inr (Or.inl z)⟩
        refine ⟨by omega, fun z => ?_⟩
        have a2 : ¬ O (t + 1) < O c := fun z2 => hc ⟨h3, Or.inr (Or.inr ⟨z, z2⟩)⟩
        omega
      · exact i2 o h1 (by omega) h3
abbrev Rs : Type := (Nat → Int) × (Nat → Int) × (Nat → Int)
def mx2 (a b : Int) : Int := if a < b then b else a
def stpW (σ : St) (en now : Int) (c : Nat) (x : Rs) : Rs :=
  if x.2.1 c - 1 = 0 then (zup x.1 c (x.1 c + σ 1 c), zup x.2.1 c (σ 0 c), if x.1 c < en then zup x.2.2 c (mx2 (x.2.2 c) (now + 1 - x.1 c)) else x.2.2) else (x.1, zup x.2.1 c (x.2.1 c - 1), x.2.2)
def stp (σ : St) (n : Nat) (en now : Int) (x : Rs) : Rs := if chF σ x.1 now n = 0 then x else stpW σ en now (chF σ x.1 now n) x
def run (σ : St) (n : Nat) (en : Int) (x : Rs) : Nat → Rs
  | 0 => x
  | k + 1 => stp σ n en k (run σ n en x k)
def hz : Nat := 50000
def st0 (σ : St) (φ M : Nat → Int) : Rs := (φ, fun t => σ 0 t, M)
def LST (σ : St) (n : Nat) (en : Int) (φ : Nat → Int) (t : Nat) : Int := (run σ n en (st0 σ φ (fun _ => 0)) hz).2.2 t
/-- the ranges -/
def RI (σ : St) (n : Nat) (φ : Nat → Int) (k : Nat) (x : Rs) : Prop := ∀ t : Nat, 1 ≤ t → t ≤ n → (1 ≤ x.2.1 t ∧ x.2.1 t ≤ σ 0 t) ∧ (φ t ≤ x.1 t ∧ x.1 t ≤ (k : Int) + σ 1 t)
theorem RI_stp {σ : St} {n m : Nat} (hO : OK n m σ) {φ : Nat → Int} {k : Nat} {en : Int} {x : Rs} (h : RI σ n φ k x) : RI σ n φ (k + 1) (stp σ n en k x) := by
  intro t h1 h2
  obtain ⟨⟨a1, a2⟩, a3, a4⟩ := h t h1 h2
  obtain ⟨o0, o1, -⟩ := hO.2.2.1 t h1 h2
  unfold stp
  split
  · refine ⟨⟨a1, a2⟩, a3, by omega⟩
  · rename_i hc
    obtain ⟨b1, -⟩ := chF_best n hc
    have hle := chF_le σ x.1 k n
    generalize chF σ x.1 k n = c at *
    unfold stpW
    split
    · dsimp only
      unfold zup
      by_cases e : t = c
      · subst e
        rw [if_pos rfl, if_pos rfl]
        refine ⟨⟨by omega, by omega⟩, by omega, by omega⟩
      · rw [if_neg e, if_neg e]
        refine ⟨⟨a1, a2⟩, a3, by omega⟩
    · rename_i hl
      dsimp only
      unfold zup
      by_cases e : t = c
      · subst e
        rw [if_pos rfl]
        refine ⟨⟨by omega, by omega⟩, a3, by omega⟩
      · rw [if_neg e]
        refine ⟨⟨a1, a2⟩, a3, by omega⟩
theorem RI_run {σ : St} {n m : Nat} (hO : OK n m σ) {φ M : Nat → Int} {en : Int} (hφ : ∀ t : Nat, 1 ≤ t → t ≤ n → 0 ≤ φ t ∧ φ t < σ 1 t) : ∀ k : Nat, RI σ n φ k (run σ n en (st0 σ φ M) k)
  | 0 => fun t h1 h2 => by
    have := hφ t h1 h2
    obtain ⟨o0, o1, -⟩ := hO.2.2.1 t h1 h2
    refine ⟨⟨o0.1, Int.le_refl _⟩, Int.le_refl _, ?_⟩
    show φ t ≤ ((0 : Nat) : Int) + σ 1 t
    omega
  | k + 1 => RI_stp hO (RI_run hO hφ k)
/-- what is over stays over -/
theorem over_stp {σ : St} {n m : Nat} (hO : OK n m σ) {en now : Int} {x : Rs} {t : Nat} (ht : 1 ≤ t ∧ t ≤ n) : x.1 t ≤ (stp σ n en now x).1 t ∧ (en ≤ x.1 t → (stp σ n en now x).2.2 t = x.2.2 t) := by
  obtain ⟨o0, o1, -⟩ := hO.2.2.1 t ht.1 ht.2
  unfold stp
  split
  · exact ⟨Int.le_refl _, fun _ => rfl⟩
  · generalize chF σ x.1 now n = c at *
    unfold stpW
    split
    · dsimp only
      constructor
      · unfold zup; split
        · rename_i e; subst e; omega
        · omega
      · intro h
        split
        · unfold zup; split
          · rename_i e; subst e; omega
          · rfl
        · rfl
    · exact ⟨Int.le_refl _, fun _ => rfl⟩
theorem over_run {σ : St} {n m : Nat} (hO : OK n m σ) {en : Int} {x : Rs} {t : Nat} (ht : 1 ≤ t ∧ t ≤ n) (k : Nat) : ∀ d : Nat, (run σ n en x k).1 t ≤ (run σ n en x (k + d)).1 t ∧ (en ≤ (run σ n en x k).1 t → (run σ n en x (k + d)).2.2 t = (run σ n en x k).2.2 t)
  | 0 => ⟨Int.le_refl _, fun _ => rfl⟩
  | d + 1 => by
    obtain ⟨i1, i2⟩ := over_run hO (en := en) (x := x) ht k d
    obtain ⟨s1, s2⟩ := over_stp hO (en := en) (now := ((k + d : Nat) : Int)) (x := run σ n en x (k + d)) ht
    refine ⟨Int.le_trans i1 s1, fun h => ?_⟩
    rw [← i2 h]
    exact s2 (by omega)
/-- the longest so far goes along -/
theorem run_max {σ : St} {n : Nat} {en : Int} {φ M : Nat → Int} : ∀ k : Nat, (run σ n en (st0 σ φ M) k).1 = (run σ n en (st0 σ φ (fun _ => 0)) k).1 ∧ (run σ n en (st0 σ φ M) k).2.1 = (run σ n en (st0 σ φ (fun _ => 0)) k).2.1 ∧ ∀ t : Nat, 0 ≤ M t → (run σ n en (st0 σ φ M) k).2.2 t = mx2 (M t) ((run σ n en (st0 σ φ (fun _ => 0)) k).2.2 t)
  | 0 => ⟨rfl, rfl, fun t ht => by show M t = mx2 (M t) 0; unfold mx2; split <;> omega⟩
  | k + 1 => by
    obtain ⟨i1, i2, i3⟩ := run_max (σ := σ) (n := n) (en := en) (φ := φ) (M := M) k
    show (stp σ n en k _).1 = (stp σ n en k _).1 ∧ (stp σ n en k _).2.1 = (stp σ n en k _).2.1 ∧ ∀ t : Nat, 0 ≤ M t → (stp σ n en k _).2.2 t = mx2 (M t) ((stp σ n en k _).2.2 t)
    generalize run σ n en (st0 σ φ M) k = x at *
    generalize run σ n en (st0 σ φ (fun _ => 0)) k = y at *
    obtain ⟨x1, x2, x3⟩ := x
    obtain ⟨y1, y2, y3⟩ := y
    dsimp only at i1 i2 i3
    subst i1
    subst i2
    unfold stp
    dsimp only
    split
    · exact ⟨rfl, rfl, i3⟩
    · generalize chF σ x1 k n = c at *
      unfold stpW
      dsimp only
      split
      · refine ⟨rfl, rfl, fun t ht => ?_⟩
        dsimp only
        split
        · have := i3 t ht
          unfold zup
          split
          · rename_i e; subst e
            rw [this]; unfold mx2; (repeat' split) <;> omega
          · exact this
        · exact i3 t ht
      · exact ⟨rfl, rfl, i3⟩
theorem run_M0 {σ : St} {n : Nat} {en : Int} {φ : Nat → Int} (hφ : ∀ t : Nat, 1 ≤ t → t ≤ n → 0 ≤ (run σ n en (st0 σ φ (fun _ => 0)) 0).1 t) (hall : ∀ k t : Nat, 1 ≤ t → t ≤ n → 0 ≤ (run σ n en (st0 σ φ (fun _ => 0)) k).1 t) : ∀ (k t : Nat), 0 ≤ (run σ n en (st0 σ φ (fun _ => 0)) k).2.2 t ∧ (run σ n en (st0 σ φ (fun _ => 0)) k).2.2 t ≤ (k : Int)
  | 0, t => ⟨Int.le_refl 0, Int.le_refl 0⟩
  | k + 1, t => by
    have ih := run_M0 hφ hall k t
    have hc9 := chF_best (σ := σ) (O := (run σ n en (st0 σ φ (fun _ => 0)) k).1) (now := (k : Int)) n
    have hl9 := chF_le σ (run σ n en (st0 σ φ (fun _ => 0)) k).1 k n
    have ha := hall k
    show 0 ≤ (stp σ n en k _).2.2 t ∧ (stp σ n en k _).2.2 t ≤ ((k + 1 : Nat) : Int)
    generalize run σ n en (st0 σ φ (fun _ => 0)) k = x at *
    unfold stp
    split
    · exact ⟨ih.1, by omega⟩
    · rename_i hc
      obtain ⟨b1, -⟩ := hc9 hc
      have ha := ha (chF σ x.1 k n) (by omega) hl9
      generalize chF σ x.1 k n = c at *
      unfold stpW
      split
      · dsimp only
        split
        · unfold zup mx2
          split
          · rename_i e; subst e; split <;> omega
          · exact ⟨ih.1, by omega⟩
        · exact ⟨ih.1, by omega⟩
      · dsimp only; exact ⟨ih.1, by omega⟩
-- sums
def smF (f : Nat → Int) : Nat → Int
  | 0 => 0
  | t + 1 => smF f t + f (t + 1)
theorem smF_same {f g : Nat → Int} : ∀ n : Nat, (∀ t : Nat, 1 ≤ t → t ≤ n → g t = f t) → smF g n = smF f n
  | 0, _ => rfl
  | n + 1, h => by
    have ih := smF_same (f := f) (g := g) n (fun t h1 h2 => h t h1 (by omega))
    have e := h (n + 1) (by omega) (Nat.le_refl _)
    unfold smF; rw [ih, e]
theorem smF_upd {f g : Nat → Int} {c : Nat} : ∀ n : Nat, 1 ≤ c → c ≤ n → (∀ t : Nat, 1 ≤ t → t ≤ n → t ≠ c → g t = f t) → smF g n = smF f n + g c - f c
  | 0, h1, h2, _ => by omega
  | n + 1, h1, h2, h => by
    unfold smF
    by_cases e : c = n + 1
    · subst e
      rw [smF_same (f := f) (g := g) n (fun t q1 q2 => h t q1 (by omega) (by omega))]; omega
    · have ih := smF_upd (f := f) (g := g) n h1 (by omega) (fun t q1 q2 q3 => h t q1 (by omega) q3)
      rw [ih, h (n + 1) (by omega) (Nat.le_refl _) (by omega)]; omega
theorem smF_le {f g : Nat → Int} : ∀ n : Nat, (∀ t : Nat, 1 ≤ t → t ≤ n → f t ≤ g t) → smF f n ≤ smF g n
  | 0, _ => Int.le_refl 0
  | n + 1, h => by
    have ih := smF_le (f := f) (g := g) n (fun t h1 h2 => h t h1 (by omega))
    have e := h (n + 1) (by omega) (Nat.le_refl _)
    unfold smF; omega
theorem smF_mul (k : Int) (f : Nat → Int) : ∀ n : Nat, smF (fun t => k * f t) n = k * smF f n
  | 0 => by show (0 : Int) = k * 0; omega
  | n + 1 => by
    have ih := smF_mul k f n
    show smF (fun t => k * f t) n + k * f (n + 1) = k * (smF f n + f (n + 1))
    rw [ih, Int.mul_add]
def prd (ρ : Nat → Int) : Nat → Int
  | 0 => 1
  | t + 1 => prd ρ t * ρ (t + 1)
theorem prd_pos {ρ : Nat → Int} : ∀ n : Nat, (∀ t : Nat, 1 ≤ t → t ≤ n → 1 ≤ ρ t) → 1 ≤ prd ρ n
  | 0, _ => Int.le_refl 1
  | n + 1, h => by
    have ih := prd_pos n (fun t h1 h2 => h t h1 (by omega))
    have e := h (n + 1) (by omega) (Nat.le_refl _)
    have := Int.mul_le_mul ih e (by omega) (by omega)
    unfold prd; omega
theorem prd_div {ρ : Nat → Int} : ∀ n : Nat, (∀ t : Nat, 1 ≤ t → t ≤ n → 1 ≤ ρ t) → ∃ a : Nat → Int, ∀ t : Nat, 1 ≤ t → t ≤ n → a t * ρ t = prd ρ n ∧ 1 ≤ a t
  | 0, _ => ⟨fun _ => 0, fun t h1 h2 => by omega⟩
  | n + 1, h => by
    obtain ⟨a, ha⟩ := prd_div n (fun t h1 h2 => h t h1 (by omega))
    have e := h (n + 1) (by omega) (Nat.le_refl _)
    have hp := prd_pos n (fun t h1 h2 => h t h1 (by omega))
    refine ⟨fun t => if t = n + 1 then prd ρ n else a t * ρ (n + 1), fun t h1 h2 => ?_⟩
    by_cases q : t = n + 1
    · subst q
      dsimp only
      rw [if_pos rfl]
      exact ⟨rfl, hp⟩
    · dsimp only
      rw [if_neg q]
      obtain ⟨b1, b2⟩ := ha t h1 (by omega)
      refine ⟨?_, ?_⟩
      · unfold prd
        rw [← b1, Int.mul_right_comm]
      · have := Int.mul_le_mul b2 e (by omega) (by omega)
        omega
/-- small sets: all that is asked ahead of a run -/
def RUN (σ : St) (n : Nat) : Prop := n ≤ 3 ∧ (∀ t : Nat, 1 ≤ t → t ≤ n → σ 3 t = 0 ∧ σ 4 t = 1 ∧ σ 8 t = 0 ∧ σ 6 t = 0) ∧ prd (σ 1) n ≤ 60 ∧ loT σ n ≤ 1000000
theorem util {σ : St} {n m : Nat} (hO : OK n m σ) (hR : RUN σ n) : ∃ a : Nat → Int, (∀ t : Nat, 1 ≤ t → t ≤ n → a t * σ 1 t = prd (σ 1) n ∧ 1 ≤ a t) ∧ smF (fun t => a t * σ 0 t) n ≤ prd (σ 1) n := by
  have hper : ∀ t : Nat, 1 ≤ t → t ≤ n → 1 ≤ σ 1 t := fun t h1 h2 => (hO.2.2.1 t h1 h2).2.1.1
  obtain ⟨a, ha⟩ := prd_div n hper
  refine ⟨a, ha, ?_⟩
  have hP := prd_pos n hper
  obtain ⟨hn, hpl, hp60, hlo⟩ := hR
  generalize prd (σ 1) n = P at *
  have key : ∀ k : Nat, k ≤ n → 1000000 * smF (fun t => a t * σ 0 t) k - (k : Int) * P ≤ P * loT σ k := by
    intro k
    induction k with
    | zero => intro _; show 1000000 * 0 - ((0 : Nat) : Int) * P ≤ P * 0; omega
    | succ k ih =>
      intro hk
      have ih := ih (by omega)
      obtain ⟨b1, b2⟩ := ha (k + 1) (by omega) hk
      obtain ⟨p3, p4, p8, p6⟩ := hpl (k + 1) (by omega) hk
      have hT := hper (k + 1) (by omega) hk
      have e1 : loaI (σ 0 (k + 1)) (σ 6 (k + 1)) (σ 4 (k + 1)) (σ 1 (k + 1)) = 1000000 * σ 0 (k + 1) / σ 1 (k + 1) := by
        unfold loaI; rw [p4, p6, Int.mul_one, Int.add_zero]
      show 1000000 * (smF (fun t => a t * σ 0 t) k + a (k + 1) * σ 0 (k + 1)) - ((k + 1 : Nat) : Int) * P ≤ P * (loT σ k + loaI _ _ _ _)
      rw [e1, Int.mul_add P]
      have m1 := Int.emod_lt_of_pos (1000000 * σ 0 (k + 1)) (show 0 < σ 1 (k + 1) by omega)
      have m2 := Int.mul_ediv_add_emod (1000000 * σ 0 (k + 1)) (σ 1 (k + 1))
      generalize 1000000 * σ 0 (k + 1) / σ 1 (k + 1) = q at *
      have m3 : 1000000 * σ 0 (k + 1) - σ 1 (k + 1) ≤ σ 1 (k + 1) * q := by omega
      have m4 := Int.mul_le_mul_of_nonneg_left m3 (show 0 ≤ a (k + 1) by omega)
      rw [← Int.mul_assoc, b1, Int.mul_sub, b1, Int.mul_left_comm] at m4
      have m5 : ((k + 1 : Nat) : Int) * P = (k : Int) * P + P := by
        show ((k : Int) + 1) * P = _
        rw [Int.add_mul, Int.one_mul]
      omega
  have k1 := key n (Nat.le_refl n)
  have k2 := Int.mul_le_mul_of_nonneg_left hlo (show 0 ≤ P by omega)
  have k3 : (n : Int) * P ≤ 3 * P := Int.mul_le_mul_of_nonneg_right (by omega) (by omega)
  omega
theorem run_ends {σ : St} {n m : Nat} (hO : OK n m σ) (hR : RUN σ n) {φ M : Nat → Int} {en : Int} (hen : 0 ≤ en ∧ en ≤ 180) (hφ : ∀ t : Nat, 1 ≤ t → t ≤ n → 0 ≤ φ t ∧ φ t < σ 1 t) {i : Nat} (hi : 1 ≤ i ∧ i ≤ n) {K : Nat} (hK : (20000 : Int) ≤ (K : Int)) : en ≤ (run σ n en (st0 σ φ M) K).1 i := by
  obtain ⟨a, ha, hu⟩ := util hO hR
  have hper : ∀ t : Nat, 1 ≤ t → t ≤ n → 1 ≤ σ 1 t := fun t h1 h2 => (hO.2.2.1 t h1 h2).2.1.1
  have hP := prd_pos n hper
  have hP6 := hR.2.2.1
  generalize prd (σ 1) n = P at *
  rcases Int.lt_or_le ((run σ n en (st0 σ φ M) K).1 i) en with hlt | h
  case inr => exact h
  exfalso
  have hbef : ∀ k : Nat, k ≤ K → (run σ n en (st0 σ φ M) k).1 i < en := by
    intro k hk
    have := (over_run hO (en := en) (x := st0 σ φ M) hi k (K - k)).1
    rw [show k + (K - k) = K by omega] at this
    omega
  have hwp : ∀ t : Nat, 1 ≤ t → t ≤ n → (a t * σ 0 t) * σ 1 t = P * σ 0 t ∧ σ 0 t ≤ a t * σ 0 t ∧ 1 ≤ σ 0 t := by
    intro t h1 h2
    obtain ⟨b1, b2⟩ := ha t h1 h2
    have o0 := (hO.2.2.1 t h1 h2).1
    refine ⟨by rw [Int.mul_right_comm, b1], ?_, o0.1⟩
    have := Int.mul_le_mul_of_nonneg_right b2 (show 0 ≤ σ 0 t by omega)
    omega
  generalize hw : (fun t => a t * σ 0 t) = w at hu
  have hwp : ∀ t : Nat, 1 ≤ t → t ≤ n → w t * σ 1 t = P * σ 0 t ∧ σ 0 t ≤ w t ∧ 1 ≤ σ 0 t := by
    intro t h1 h2
    rw [← hw]
    exact hwp t h1 h2
  have hV : ∀ k : Nat, k ≤ K → 0 ≤ smF (fun t => w t * ((run σ n en (st0 σ φ M) k).1 t - φ t) + P * (σ 0 t - (run σ n en (st0 σ φ M) k).2.1 t)) n ∧ P * ((k : Int) - en) ≤ smF (fun t => w t * ((run σ n en (st0 σ φ M) k).1 t - φ t) + P * (σ 0 t - (run σ n en (st0 σ φ M) k).2.1 t)) n := by
    intro k
    induction k with
    | zero =>
      intro _
      have e : smF (fun t => w t * ((run σ n en (st0 σ φ M) 0).1 t - φ t) + P * (σ 0 t - (run σ n en (st0 σ φ M) 0).2.1 t)) n = 0 := by
        have e2 : ∀ k : Nat, smF (fun t => w t * ((run σ n en (st0 σ φ M) 0).1 t - φ t) + P * (σ 0 t - (run σ n en (st0 σ φ M) 0).2.1 t)) k = 0 := by
          intro k
          induction k with
          | zero => rfl
          | succ k ih =>
            show _ + (w (k + 1) * (φ (k + 1) - φ (k + 1)) + P * (σ 0 (k + 1) - σ 0 (k + 1))) = 0
            rw [ih, Int.sub_self, Int.sub_self, Int.mul_zero, Int.mul_zero]; rfl
        exact e2 n
      rw [e]
      refine ⟨Int.le_refl 0, ?_⟩
      have := Int.mul_nonneg (show 0 ≤ P by omega) hen.1
      show P * (((0 : Nat) : Int) - en) ≤ 0
      rw [Int.mul_sub]; omega
    | succ k ih =>
      intro hk
      obtain ⟨i1, i2⟩ := ih (by omega)
      have hb := hbef k (by omega)
      have hri := RI_run hO (M := M) (en := en) hφ k
      have hcz := chF_zero (σ := σ) (O := (run σ n en (st0 σ φ M) k).1) (now := (k : Int)) n
      have hle := chF_le σ (run σ n en (st0 σ φ M) k).1 (k : Int) n
      have hex : P * (((k + 1 : Nat) : Int) - en) = P * ((k : Int) - en) + P := by
        rw [show ((k + 1 : Nat) : Int) - en = ((k : Int) - en) + 1 by omega, Int.mul_add, Int.mul_one]
      show 0 ≤ smF (fun t => w t * ((stp σ n en k (run σ n en (st0 σ φ M) k)).1 t - φ t) + P * (σ 0 t - (stp σ n en k (run σ n en (st0 σ φ M) k)).2.1 t)) n ∧ P * (((k + 1 : Nat) : Int) - en) ≤ smF (fun t => w t * ((stp σ n en k (run σ n en (st0 σ φ M) k)).1 t - φ t) + P * (σ 0 t - (stp σ n en k (run σ n en (st0 σ φ M) k)).2.1 t)) n
      rw [hex]
      generalize run σ n en (st0 σ φ M) k = x at *
      by_cases hc : chF σ x.1 (k : Int) n = 0
      · have e : stp σ n en k x = x := by unfold stp; rw [if_pos hc]
        rw [e]
        have := hcz hc i hi.1 hi.2
        have hneg : P * ((k : Int) - en) + P ≤ 0 := by
          have := Int.mul_le_mul_of_nonneg_left (show ((k : Int) - en) + 1 ≤ 0 by omega) (show 0 ≤ P by omega)
          rw [Int.mul_add] at this; omega
        exact ⟨i1, by omega⟩
      · have hstep : smF (fun t => w t * ((stp σ n en k x).1 t - φ t) + P * (σ 0 t - (stp σ n en k x).2.1 t)) n = smF (fun t => w t * (x.1 t - φ t) + P * (σ 0 t - x.2.1 t)) n + P := by
          unfold stp
          rw [if_neg hc]
          generalize chF σ x.1 (k : Int) n = c at *
          obtain ⟨w1, w2, w3⟩ := hwp c (by omega) hle
          rw [smF_upd (f := fun t => w t * (x.1 t - φ t) + P * (σ 0 t - x.2.1 t)) (c := c) n (by omega) hle (fun t h1 h2 h3 => by
            unfold stpW
            split
            · dsimp only; rw [zup_ne h3, zup_ne h3]
            · dsimp only; rw [zup_ne h3])]
          unfold stpW
          split
          · rename_i hl
            dsimp only
            rw [zup_eq, zup_eq]
            have hl : x.2.1 c = 1 := by omega
            rw [hl]
            have d1 : w c * (x.1 c + σ 1 c - φ c) = w c * (x.1 c - φ c) + P * σ 0 c := by
              rw [show x.1 c + σ 1 c - φ c = (x.1 c - φ c) + σ 1 c by omega, Int.mul_add, w1]
            have d2 : P * (σ 0 c - 1) = P * σ 0 c - P := by rw [Int.mul_sub, Int.mul_one]
            have d3 : P * (σ 0 c - σ 0 c) = 0 := by rw [Int.sub_self, Int.mul_zero]
            omega
          · dsimp only
            rw [zup_eq]
            have d2 : P * (σ 0 c - (x.2.1 c - 1)) = P * (σ 0 c - x.2.1 c) + P := by
              rw [show σ 0 c - (x.2.1 c - 1) = (σ 0 c - x.2.1 c) + 1 by omega, Int.mul_add, Int.mul_one]
            omega
        rw [hstep]
        omega
  have hlow := (hV K (Nat.le_refl K)).2
  have hri := RI_run hO (M := M) (en := en) hφ K
  generalize run σ n en (st0 σ φ M) K = x at *
  have hup : smF (fun t => w t * (x.1 t - φ t) + P * (σ 0 t - x.2.1 t)) n ≤ smF (fun t => if t = i then ((K : Int) + 2 * P) * w t + w t * (en - K) else ((K : Int) + 2 * P) * w t) n := by
    refine smF_le n (fun t h1 h2 => ?_)
    obtain ⟨⟨r1, r2⟩, r3, r4⟩ := hri t h1 h2
    obtain ⟨w1, w2, w3⟩ := hwp t h1 h2
    have f0 := hφ t h1 h2
    have u2 : P * (σ 0 t - x.2.1 t) ≤ P * w t := Int.mul_le_mul_of_nonneg_left (by omega) (by omega)
    have u3 : P * σ 0 t ≤ P * w t := Int.mul_le_mul_of_nonneg_left w2 (by omega)
    have u4 : ((K : Int) + 2 * P) * w t = w t * (K : Int) + 2 * (P * w t) := by rw [Int.add_mul, Int.mul_comm (K : Int), Int.mul_assoc]
    try dsimp only
    split
    · rename_i e
      subst e
      have u1 : w t * (x.1 t - φ t) ≤ w t * en := Int.mul_le_mul_of_nonneg_left (by omega) (by omega)
      have u5 : w t * (en - (K : Int)) = w t * en - w t * (K : Int) := Int.mul_sub _ _ _
      have u6 := Int.mul_nonneg (show 0 ≤ P by omega) (show 0 ≤ w t by omega)
      omega
    · have u1 : w t * (x.1 t - φ t) ≤ w t * ((K : Int) + σ 1 t) := Int.mul_le_mul_of_nonneg_left (by omega) (by omega)
      have u5 : w t * ((K : Int) + σ 1 t) = w t * (K : Int) + P * σ 0 t := by rw [Int.mul_add, w1]
      omega
  have e9 := smF_upd (f := fun t => ((K : Int) + 2 * P) * w t) (g := fun t => if t = i then ((K : Int) + 2 * P) * w t + w t * (en - K) else ((K : Int) + 2 * P) * w t) (c := i) n hi.1 hi.2 (fun t h1 h2 h3 => if_neg h3)
  rw [if_pos rfl, smF_mul] at e9
  rw [e9] at hup
  obtain ⟨w1, w2, w3⟩ := hwp i hi.1 hi.2
  have v1 : ((K : Int) + 2 * P) * smF w n ≤ ((K : Int) + 2 * P) * P := Int.mul_le_mul_of_nonneg_left hu (by omega)
  have v2 : ((K : Int) + 2 * P) * P = P * (K : Int) + 2 * (P * P) := by rw [Int.add_mul, Int.mul_comm (K : Int), Int.mul_assoc]
  have v3 : P * ((K : Int) - en) = P * (K : Int) - P * en := Int.mul_sub _ _ _
  have v4 : w i * (en - (K : Int)) ≤ 1 * (en - (K : Int)) := Int.mul_le_mul_of_nonpos_right (by omega) (by omega)
  have v5 := mulb (a := P) (A := 60) (b := P) (B := 60) (by omega) (by omega)
  have v6 := mulb (a := P) (A := 60) (b := en) (B := 180) (by omega) (by omega)
  omega
-- how phases are counted
def rst (ρ : Nat → Int) (k : Int) : Nat → Int
  | 0 => k
  | t + 1 => rst ρ k t / ρ (t + 1)
theorem rst_shift {ρ : Nat → Int} {k : Int} : ∀ t : Nat, rst ρ k (t + 1) = rst (fun j => ρ (j + 1)) (k / ρ 1) t
  | 0 => rfl
  | t + 1 => by
    have ih := rst_shift (ρ := ρ) (k := k) t
    show rst ρ k (t + 1) / ρ (t + 1 + 1) = rst (fun j => ρ (j + 1)) (k / ρ 1) t / ρ (t + 1 + 1)
    rw [ih]
theorem prd_shift {ρ : Nat → Int} : ∀ n : Nat, prd ρ (n + 1) = ρ 1 * prd (fun j => ρ (j + 1)) n
  | 0 => by show 1 * ρ 1 = ρ 1 * 1; omega
  | n + 1 => by
    have ih := prd_shift (ρ := ρ) n
    show prd ρ (n + 1) * ρ (n + 1 + 1) = ρ 1 * (prd (fun j => ρ (j + 1)) n * ρ (n + 1 + 1))
    rw [ih, Int.mul_assoc]
theorem dig_all : ∀ (n : Nat) (ρ φ : Nat → Int), (∀ t : Nat, 1 ≤ t → t ≤ n → 0 ≤ φ t ∧ φ t < ρ t) → ∃ k : Int, (0 ≤ k ∧ k < prd ρ n) ∧ ∀ t : Nat, 1 ≤ t → t ≤ n → rst ρ k (t - 1) % ρ t = φ t
  | 0, ρ, φ, _ => ⟨0, ⟨Int.le_refl 0, by show (0 : Int) < 1; omega⟩, fun t h1 h2 => by omega⟩
  | n + 1, ρ, φ, h => by
    obtain ⟨k, ⟨k1, k2⟩, hk⟩ := dig_all n (fun j => ρ (j + 1)) (fun j => φ (j + 1)) (fun t h1 h2 => h (t + 1) (by omega) (by omega))
    obtain ⟨p1, p2⟩ := h 1 (Nat.le_refl 1) (by omega)
    have e1 : (φ 1 + ρ 1 * k) % ρ 1 = φ 1 := by rw [Int.add_mul_emod_self_left, Int.emod_eq_of_lt p1 p2]
    have e2 : (φ 1 + ρ 1 * k) / ρ 1 = k := by rw [Int.add_mul_ediv_left _ _ (by omega), Int.ediv_eq_zero_of_lt p1 p2]; omega
    have m0 := Int.mul_nonneg (show 0 ≤ ρ 1 by omega) k1
    refine ⟨φ 1 + ρ 1 * k, ⟨by omega, ?_⟩, fun t h1 h2 => ?_⟩
    · rw [prd_shift]
      have := Int.mul_le_mul_of_nonneg_left (show k + 1 ≤ prd (fun j => ρ (j + 1)) n by omega) (show 0 ≤ ρ 1 by omega)
      rw [Int.mul_add] at this; omega
    · match t, h1 with
      | 1, _ => exact e1
      | t + 2, _ =>
        show rst ρ (φ 1 + ρ 1 * k) (t + 1) % ρ (t + 2) = φ (t + 2)
        rw [rst_shift, e2]
        exact hk (t + 1) (by omega) (by omega)
theorem rst_b {ρ : Nat → Int} {k : Int} (hk : 0 ≤ k) : ∀ t : Nat, (∀ j : Nat, 1 ≤ j → j ≤ t → 1 ≤ ρ j) → 0 ≤ rst ρ k t ∧ rst ρ k t ≤ k
  | 0, _ => ⟨hk, Int.le_refl k⟩
  | t + 1, h => by
    have ih := rst_b hk t (fun j h1 h2 => h j h1 (by omega))
    exact divb ih (by have := h (t + 1) (by omega) (Nat.le_refl _); omega)
/-- what the runs of all phases show for t -/
def phS (σ : St) (n : Nat) (en : Int) (t : Nat) (y : Int) : Prop := ∃ φ : Nat → Int, (∀ j : Nat, ¬ (1 ≤ j ∧ j ≤ n) → φ j = 0) ∧ (∀ j : Nat, 1 ≤ j → j ≤ n → (0 ≤ φ j ∧ φ j < σ 1 j) ∧ (σ 7 j = -1 ∨ σ 7 j = φ j)) ∧ y = LST σ n en φ t
noncomputable def plm (σ : St) (n : Nat) (en : Int) (t : Nat) : Int := Classical.epsilon (isMax (phS σ n en t))
theorem plm_eq {σ : St} {n : Nat} {en : Int} {t : Nat} {x : Int} (h : isMax (phS σ n en t) x) : x = plm σ n en t := h.uniq (Classical.epsilon_spec (p := isMax (phS σ n en t)) ⟨x, h⟩)
/-- the least common multiple -/
def cyc (σ : St) : Nat → Nat
  | 0 => 1
  | t + 1 => Nat.lcm (cyc σ t) (σ 1 (t + 1)).toNat
theorem cyc_b {σ : St} {n m : Nat} (hO : OK n m σ) : ∀ t : Nat, t ≤ n → 1 ≤ cyc σ t ∧ (cyc σ t : Int) ≤ prd (σ 1) t
  | 0, _ => ⟨Nat.le_refl 1, Int.le_refl 1⟩
  | t + 1, h => by
    obtain ⟨i1, i2⟩ := cyc_b hO t (by omega)
    obtain ⟨-, o1, -⟩ := hO.2.2.1 (t + 1) (by omega) h
    have hd : cyc σ (t + 1) ∣ cyc σ t * (σ 1 (t + 1)).toNat := Nat.lcm_dvd (Nat.dvd_mul_right _ _) (Nat.dvd_mul_left _ _)
    have hp : 0 < cyc σ t * (σ 1 (t + 1)).toNat := Nat.mul_pos i1 (by omega)
    have hl := Nat.le_of_dvd hp hd
    refine ⟨Nat.lcm_pos i1 (by omega), ?_⟩
    have h1 : ((cyc σ (t + 1) : Nat) : Int) ≤ ((cyc σ t * (σ 1 (t + 1)).toNat : Nat) : Int) := by omega
    rw [Int.natCast_mul, Int.toNat_of_nonneg (by omega)] at h1
    have h2 := Int.mul_le_mul_of_nonneg_right i2 (show 0 ≤ σ 1 (t + 1) by omega)
    exact Int.le_trans h1 h2
def endT (σ : St) (n : Nat) : Int := 3 * (cyc σ n : Int)
noncomputable def plainF (σ : St) (n m : Nat) (z : Int) : Prop := (1 ≤ z ∧ z ≤ n) ∧ m = 0 ∧ RUN σ n ∧ (ansF σ n m z.toNat).1 ≠ -1 ∧ ((∃ t : Nat, 1 ≤ t ∧ t ≤ n ∧ σ 7 t ≠ -1) → plm σ n (endT σ n) z.toNat ≤ (ansF σ n m z.toNat).1) ∧ ((∀ t : Nat, 1 ≤ t → t ≤ n → σ 7 t = -1) → plm σ n (endT σ n) z.toNat = (ansF σ n m z.toNat).1)
