/-! THE CLASS: a new interrupt, a new task -/
theorem Cr.live {G : Gt} {h : hF} {AD : Nat → Nat} {σ : St} {n m : Nat} (hC : Cr G h AD σ n m) {k : Nat} (hk : Lv n m k) : h (AD k) ≠ none := by
  obtain ⟨c1, ⟨c2, c3⟩, ⟨mc, cap, g, l1, l2⟩, ⟨mc', cap', g', i1, i2⟩, ⟨f, f1, -⟩, c7, c8, ⟨⟨kn, ct, en, p1, -⟩, ⟨f8, p2⟩, p3⟩, ⟨x1, x2, x3, x4, x5, -⟩⟩ := hC
  have hs : ∀ {a : Nat} {e : va_E}, h a = some e → h a ≠ none := fun q z => by rw [q] at z; cases z
  rcases hk with ⟨h1, h2, h4⟩ | ⟨h1, h2⟩ | ⟨h1, h2⟩
  · by_cases e6 : 7 ≤ k ∧ k ≤ 13
    · by_cases e8 : k = 8
      · subst e8; exact hs p2
      · obtain ⟨f, q⟩ := p3 k (by omega); exact hs q
    · match k, e6 with
      | 0, _ => exact hs c2
      | 1, _ => exact hs l1
      | 2, _ =>
        rcases l2 with ⟨z, -⟩ | ⟨-, -, -, q, -⟩
        · have := h2 rfl; omega
        · exact hs q
      | 3, _ => exact hs i1
      | 4, _ =>
        rcases i2 with ⟨z, -⟩ | ⟨-, -, -, q, -⟩
        · have := h4 rfl; omega
        · exact hs q
      | 5, _ => exact hs f1
      | 6, _ => exact hs p1
      | 14, _ => exact hs x5
      | 15, _ => exact hs c3
      | k + 16, _ => omega
  · obtain ⟨t1, ⟨f, t2, -⟩, ⟨g, t3, -⟩, y1, y2, y3, y4, t4, -⟩ := c7 ((k - 20) / 4) (by omega) (by omega)
    have hr : k = 20 + 4 * ((k - 20) / 4) ∨ k = 21 + 4 * ((k - 20) / 4) ∨ k = 22 + 4 * ((k - 20) / 4) ∨ k = 23 + 4 * ((k - 20) / 4) := by omega
    rcases hr with e | e | e | e
    · rw [e]; exact hs t1
    · rw [e]; exact hs t2
    · rw [e]; exact hs t3
    · rw [e]; exact hs t4
  · have q := c8 (k - 100) (by omega) (by omega)
    rw [show 100 + (k - 100) = k by omega] at q
    exact hs q
def adI (AD : Nat → Nat) (m q te2 : Nat) : Nat → Nat := fun k => if k = 101 + m then q else if k = 4 then te2 else AD k
theorem Cr.newI {G : Gt} {h h' : hF} {AD : Nat → Nat} {σ : St} {n m q te2 : Nat} {ow9 pe : Int} (hC : Cr G h AD σ n m) (hn : n ≤ 16) (hm : m < 8) (hq : h q = none) (hqt : q ≠ te2) (ht2 : (1 ≤ m ∧ te2 = AD 4) ∨ h te2 = none) (hI : h' q = some (.inr (4, IF (st1 (st1 σ 12 (m + 1) ow9) 13 (m + 1) pe) (m + 1)))) (hL : LsAt G h' (AD 3) te2 (m + 1) (fun i => some (adI AD m q te2 (101 + i)))) (he : ∀ a : Nat, a ≠ AD 3 → a ≠ te2 → a ≠ q → h' a = h a) : Cr G h' (adI AD m q te2) (st1 (st1 σ 12 (m + 1) ow9) 13 (m + 1) pe) n (m + 1) := by
  have hq9 : ∀ k : Nat, Lv n m k → AD k ≠ q := fun k hk z => hC.live hk (by rw [z]; exact hq)
  have ht9 : ∀ k : Nat, Lv n m k → k ≠ 4 → AD k ≠ te2 := fun k hk k4 z => by
    rcases ht2 with ⟨h1, h2⟩ | h2
    · exact hC.inj hk (by unfold Lv; omega) k4 (by rw [z, h2])
    · exact hC.live hk (by rw [z]; exact h2)
  have ne : ∀ k : Nat, Lv n m k → k ≠ 3 → k ≠ 4 → h' (AD k) = h (AD k) := fun k hk k3 k4 => he _ (hC.inj hk (by unfold Lv; omega) k3) (ht9 k hk k4) (hq9 k hk)
  have ad : ∀ k : Nat, k ≠ 101 + m → k ≠ 4 → adI AD m q te2 k = AD k := fun k k1 k2 => by unfold adI; rw [if_neg k1, if_neg k2]
  have adq : adI AD m q te2 (101 + m) = q := by unfold adI; rw [if_pos rfl]
  have ad4 : adI AD m q te2 4 = te2 := by unfold adI; rw [if_neg (by omega), if_pos rfl]
  have lv : ∀ k : Nat, Lv n (m + 1) k → k = 101 + m ∨ k = 4 ∨ (Lv n m k ∧ k ≠ 101 + m ∧ k ≠ 4) := fun k hk => by unfold Lv at *; omega
  obtain ⟨c1, ⟨c2, c3⟩, c4, c5, c6, c7, c8, c9, c10⟩ := id hC
  refine ⟨?_, ⟨?_, ?_⟩, ?_, ?_, ?_, ?_, ?_, ?_, ?_⟩
  · intro i j hi hj e
    rcases lv i hi with rfl | rfl | ⟨i1, i2, i3⟩
    · rcases lv j hj with rfl | rfl | ⟨j1, j2, j3⟩
      · rfl
      · rw [adq, ad4] at e; exact absurd e hqt
      · rw [adq, ad j j2 j3] at e; exact absurd e.symm (hq9 j j1)
    · rcases lv j hj with rfl | rfl | ⟨j1, j2, j3⟩
      · rw [adq, ad4] at e; exact absurd e.symm hqt
      · rfl
      · rw [ad4, ad j j2 j3] at e; exact absurd e.symm (ht9 j j1 j3)
    · rcases lv j hj with rfl | rfl | ⟨j1, j2, j3⟩
      · rw [adq, ad i i2 i3] at e; exact absurd e (hq9 i i1)
      · rw [ad4, ad i i2 i3] at e; exact absurd e (ht9 i i1 i3)
      · rw [ad i i2 i3, ad j j2 j3] at e; exact c1 i j i1 j1 e
  · rw [ad 0 (by omega) (by omega), ad 1 (by omega) (by omega), ad 3 (by omega) (by omega), ad 5 (by omega) (by omega), ne 0 (by unfold Lv; omega) (by omega) (by omega)]; exact c2
  · rw [ad 15 (by omega) (by omega), ad 0 (by omega) (by omega), ad 6 (by omega) (by omega), ad 14 (by omega) (by omega), ne 15 (by unfold Lv; omega) (by omega) (by omega)]; exact c3
  · rw [ad 1 (by omega) (by omega), ad 2 (by omega) (by omega)]
    obtain ⟨mc, cap, g, l1, l2⟩ := c4
    refine ⟨mc, cap, g, (ne 1 (by unfold Lv; omega) (by omega) (by omega)).trans l1, ?_⟩
    rcases l2 with l2 | ⟨a1, a2, a3, a4, a5⟩
    · exact Or.inl l2
    · refine Or.inr ⟨a1, a2, a3, (ne 2 (by unfold Lv; omega) (by omega) (by omega)).trans a4, fun i hi => ?_⟩
      rw [a5 i hi]
      show some (AD (24 + 4 * i)) = some (adI AD m q te2 (24 + 4 * i))
      rw [ad _ (by omega) (by omega)]
  · rw [ad 3 (by omega) (by omega), ad4]; exact hL
  · rw [ad 5 (by omega) (by omega)]
    obtain ⟨f, f1, f2⟩ := c6
    exact ⟨f, (ne 5 (by unfold Lv; omega) (by omega) (by omega)).trans f1, f2⟩
  · intro t h1 h2
    obtain ⟨t1, ⟨f, f1, f2⟩, ⟨g, g1, g2⟩, x1, x2, x3, x4, x5, x6⟩ := c7 t h1 h2
    have k0 := ad (20 + 4 * t) (by omega) (by omega)
    have k1 := ad (21 + 4 * t) (by omega) (by omega)
    have k2 := ad (22 + 4 * t) (by omega) (by omega)
    have k3 := ad (23 + 4 * t) (by omega) (by omega)
    refine ⟨?_, ⟨f, by rw [k1, ne _ (by unfold Lv; omega) (by omega) (by omega)]; exact f1, f2⟩, ⟨g, by rw [k2, ne _ (by unfold Lv; omega) (by omega) (by omega)]; exact g1, g2⟩, x1, x2, x3, x4, by rw [k3, ne _ (by unfold Lv; omega) (by omega) (by omega)]; exact x5, x6⟩
    rw [k0, ne _ (by unfold Lv; omega) (by omega) (by omega), t1]
    show some (Sum.inr (6, TF AD σ t)) = some (Sum.inr (6, TF (adI AD m q te2) σ t))
    simp only [TF, k1, k2, k3]
  · intro i h1 h2
    by_cases e : i = m + 1
    · subst e
      rw [show 100 + (m + 1) = 101 + m by omega, adq]; exact hI
    · rw [ad (100 + i) (by omega) (by omega), ne _ (by unfold Lv; omega) (by omega) (by omega), c8 i h1 (by omega)]
      have s1 : st1 (st1 σ 12 (m + 1) ow9) 13 (m + 1) pe 12 i = σ 12 i := by rw [st1_o _ _ _ _ e, st1_o _ _ _ _ e]
      have s2 : st1 (st1 σ 12 (m + 1) ow9) 13 (m + 1) pe 13 i = σ 13 i := by rw [st1_o _ _ _ _ e, st1_o _ _ _ _ e]
      simp only [IF, s1, s2]
  · obtain ⟨⟨kn, ct, en, p1, p2⟩, ⟨f, f1⟩, p3⟩ := c9
    have ka : ∀ k : Nat, 6 ≤ k → k ≤ 13 → adI AD m q te2 k = AD k := fun k a b => ad k (by omega) (by omega)
    refine ⟨⟨kn, ct, en, ?_, p2⟩, ⟨f, by rw [ka 8 (by omega) (by omega), ne 8 (by unfold Lv; omega) (by omega) (by omega)]; exact f1⟩, fun j hj => ?_⟩
    · rw [ka 6 (by omega) (by omega), ne 6 (by unfold Lv; omega) (by omega) (by omega), p1]
      simp only [PF, ka 7 (by omega) (by omega), ka 8 (by omega) (by omega), ka 9 (by omega) (by omega), ka 10 (by omega) (by omega), ka 11 (by omega) (by omega), ka 12 (by omega) (by omega), ka 13 (by omega) (by omega)]
    · obtain ⟨f, f1⟩ := p3 j hj
      exact ⟨f, by rw [ka j (by omega) (by omega), ne j (by unfold Lv; omega) (by omega) (by omega)]; exact f1⟩
  · obtain ⟨x1, x2, x3, x4, x5, x6⟩ := c10
    exact ⟨x1, x2, x3, x4, by rw [ad 14 (by omega) (by omega), ne 14 (by unfold Lv; omega) (by omega) (by omega)]; exact x5, x6⟩
def adT (AD : Nat → Nat) (n b q1 q2 q3 te2 : Nat) : Nat → Nat := fun k => if k = 24 + 4 * n then b else if k = 25 + 4 * n then q1 else if k = 26 + 4 * n then q2 else if k = 27 + 4 * n then q3 else if k = 2 then te2 else AD k
theorem reach_new {σ : St} {n : Nat} {ow9 pe ra r k : Int} : reach (tskS σ (n + 1) ow9 pe ra) (n + 1) r k ↔ reach σ n r k := by
  have e8 : ∀ o : Nat, o ≠ n + 1 → tskS σ (n + 1) ow9 pe ra 8 o = σ 8 o := fun o e => by
    unfold tskS
    rw [st1_o _ _ _ _ e, st1_o _ _ _ _ e, st1_o _ _ _ _ e, st1_o _ _ _ _ e, st1_o _ _ _ _ e, st1_o _ _ _ _ e, st1_o _ _ _ _ e, st1_o _ _ _ _ e, st1_o _ _ _ _ e]
  have e2 : ∀ o : Nat, o ≠ n + 1 → tskS σ (n + 1) ow9 pe ra 2 o = σ 2 o := fun o e => by
    unfold tskS
    rw [st1_o _ _ _ _ e, st1_o _ _ _ _ e, st1_o _ _ _ _ e, st1_o _ _ _ _ e, st1_o _ _ _ _ e, st1_o _ _ _ _ e, st1_o _ _ _ _ e, st1_o _ _ _ _ e, st1_o _ _ _ _ e]
  have e9 : tskS σ (n + 1) ow9 pe ra 9 = σ 9 := rfl
  have z8 : tskS σ (n + 1) ow9 pe ra 8 (n + 1) = 0 := by unfold tskS; rw [st1_at, if_pos ⟨rfl, rfl⟩]
  unfold reach
  constructor
  · rintro ⟨o, j, h1, h2, h3, h4, h5⟩
    by_cases e : o = n + 1
    · subst e; rw [z8] at h3; omega
    · rw [e8 o e] at h3; rw [e2 o e] at h4; rw [e9] at h5
      exact ⟨o, j, h1, by omega, h3, h4, h5⟩
  · rintro ⟨o, j, h1, h2, h3, h4, h5⟩
    have e : o ≠ n + 1 := by omega
    exact ⟨o, j, h1, by omega, by rw [e8 o e]; exact h3, by rw [e2 o e]; exact h4, by rw [e9]; exact h5⟩
theorem tskS_o (σ : St) (n : Nat) (ow9 pe ra : Int) (k o : Nat) (e : o ≠ n + 1) : tskS σ (n + 1) ow9 pe ra k o = σ k o := by
  unfold tskS
  rw [st1_o _ _ _ _ e, st1_o _ _ _ _ e, st1_o _ _ _ _ e, st1_o _ _ _ _ e, st1_o _ _ _ _ e, st1_o _ _ _ _ e, st1_o _ _ _ _ e, st1_o _ _ _ _ e, st1_o _ _ _ _ e]
theorem Cr.newT {G : Gt} {h h' : hF} {AD : Nat → Nat} {σ : St} {n m b q1 q2 q3 te2 : Nat} {ow9 pe ra : Int} (hC : Cr G h AD σ n m) (hn : n < 16) (hm : m ≤ 8) (hb : h b = none) (h1 : h q1 = none) (h2 : h q2 = none) (h3 : h q3 = none) (hd : b ≠ q1 ∧ b ≠ q2 ∧ b ≠ q3 ∧ q1 ≠ q2 ∧ q1 ≠ q3 ∧ q2 ≠ q3) (hd2 : b ≠ te2 ∧ q1 ≠ te2 ∧ q2 ≠ te2 ∧ q3 ≠ te2) (ht2 : (1 ≤ n ∧ te2 = AD 2) ∨ h te2 = none)
    (hB : h' b = some (.inr (6, [.int (iZ ((n + 1 : Nat) : Int)), .long (lZ pe), .long (lZ ow9), .long (lZ 0), .long (lZ 0), .long (lZ 1), .int (iZ 1), .int (iZ ra), .ref q1, .ref q2, .ref q3, .int (iZ 0), .long (lZ (-1))]))) (hQ1 : h' q1 = some (gI G 10 (fun _ => 0))) (hQ2 : h' q2 = some (gJ G 10 (fun _ => 0))) (hQ3 : h' q3 = some (.inr (3, FF4 0 (-1) 0 0))) (hL : LsAt G h' (AD 1) te2 (n + 1) (fun i => some (adT AD n b q1 q2 q3 te2 (24 + 4 * i)))) (he : ∀ a : Nat, a ≠ AD 1 → a ≠ te2 → a ≠ b → a ≠ q1 → a ≠ q2 → a ≠ q3 → h' a = h a) : Cr G h' (adT AD n b q1 q2 q3 te2) (tskS σ (n + 1) ow9 pe ra) (n + 1) m := by
  have nw : ∀ {x : Nat}, h x = none → ∀ k : Nat, Lv n m k → AD k ≠ x := fun hx k hk z => hC.live hk (by rw [z]; exact hx)
  have ht9 : ∀ k : Nat, Lv n m k → k ≠ 2 → AD k ≠ te2 := fun k hk k4 z => by
    rcases ht2 with ⟨h1, h2⟩ | h2
    · exact hC.inj hk (by unfold Lv; omega) k4 (by rw [z, h2])
    · exact hC.live hk (by rw [z]; exact h2)
  have ne : ∀ k : Nat, Lv n m k → k ≠ 1 → k ≠ 2 → h' (AD k) = h (AD k) := fun k hk k3 k4 => he _ (hC.inj hk (by unfold Lv; omega) k3) (ht9 k hk k4) (nw hb k hk) (nw h1 k hk) (nw h2 k hk) (nw h3 k hk)
  have ad : ∀ k : Nat, k ≠ 24 + 4 * n → k ≠ 25 + 4 * n → k ≠ 26 + 4 * n → k ≠ 27 + 4 * n → k ≠ 2 → adT AD n b q1 q2 q3 te2 k = AD k := fun k k1 k2 k3 k4 k5 => by unfold adT; rw [if_neg k1, if_neg k2, if_neg k3, if_neg k4, if_neg k5]
  have a0 : adT AD n b q1 q2 q3 te2 (24 + 4 * n) = b := by unfold adT; rw [if_pos rfl]
  have a1 : adT AD n b q1 q2 q3 te2 (25 + 4 * n) = q1 := by unfold adT; rw [if_neg (by omega), if_pos rfl]
  have a2 : adT AD n b q1 q2 q3 te2 (26 + 4 * n) = q2 := by unfold adT; rw [if_neg (by omega), if_neg (by omega), if_pos rfl]
  have a3 : adT AD n b q1 q2 q3 te2 (27 + 4 * n) = q3 := by unfold adT; rw [if_neg (by omega), if_neg (by omega), if_neg (by omega), if_pos rfl]
  have a4 : adT AD n b q1 q2 q3 te2 2 = te2 := by unfold adT; rw [if_neg (by omega), if_neg (by omega), if_neg (by omega), if_neg (by omega), if_pos rfl]
  have lv : ∀ k : Nat, Lv (n + 1) m k → k = 24 + 4 * n ∨ k = 25 + 4 * n ∨ k = 26 + 4 * n ∨ k = 27 + 4 * n ∨ k = 2 ∨ (Lv n m k ∧ k ≠ 24 + 4 * n ∧ k ≠ 25 + 4 * n ∧ k ≠ 26 + 4 * n ∧ k ≠ 27 + 4 * n ∧ k ≠ 2) := fun k hk => by unfold Lv at *; omega
  obtain ⟨c1, ⟨c2, c3⟩, c4, c5, c6, c7, c8, c9, c10⟩ := id hC
  refine ⟨?_, ⟨?_, ?_⟩, ?_, ?_, ?_, ?_, ?_, ?_, ?_⟩
  · obtain ⟨d1, d2, d3, d4, d5, d6⟩ := hd
    obtain ⟨f1, f2, f3, f4⟩ := hd2
    intro i j hi hj e
    rcases lv i hi with rfl | rfl | rfl | rfl | rfl | ⟨i1, i2, i3, i4, i5, i6⟩ <;> rcases lv j hj with rfl | rfl | rfl | rfl | rfl | ⟨j1, j2, j3, j4, j5, j6⟩
    all_goals first
      | rfl
      | (simp only [a0, a1, a2, a3, a4] at e; first | exact absurd e d1 | exact absurd e.symm d1 | exact absurd e d2 | exact absurd e.symm d2 | exact absurd e d3 | exact absurd e.symm d3 | exact absurd e d4 | exact absurd e.symm d4 | exact absurd e d5 | exact absurd e.symm d5 | exact absurd e d6 | exact absurd e.symm d6 | exact absurd e f1 | exact absurd e.symm f1 | exact absurd e f2 | exact absurd e.symm f2 | exact absurd e f3 | exact absurd e.symm f3 | exact absurd e f4 | exact absurd e.symm f4)
      | (rw [ad i i2 i3 i4 i5 i6, ad j j2 j3 j4 j5 j6] at e; exact c1 i j i1 j1 e)
      | (rw [ad j j2 j3 j4 j5 j6] at e; simp only [a0, a1, a2, a3, a4] at e; first | exact absurd e.symm (nw hb j j1) | exact absurd e.symm (nw h1 j j1) | exact absurd e.symm (nw h2 j j1) | exact absurd e.symm (nw h3 j j1) | exact absurd e.symm (ht9 j j1 j6))
      | (rw [ad i i2 i3 i4 i5 i6] at e; simp only [a0, a1, a2, a3, a4] at e; first | exact absurd e (nw hb i i1) | exact absurd e (nw h1 i i1) | exact absurd e (nw h2 i i1) | exact absurd e (nw h3 i i1) | exact absurd e (ht9 i i1 i6))
  · rw [ad 0 (by omega) (by omega) (by omega) (by omega) (by omega), ad 1 (by omega) (by omega) (by omega) (by omega) (by omega), ad 3 (by omega) (by omega) (by omega) (by omega) (by omega), ad 5 (by omega) (by omega) (by omega) (by omega) (by omega), ne 0 (by unfold Lv; omega) (by omega) (by omega)]; exact c2
  · rw [ad 15 (by omega) (by omega) (by omega) (by omega) (by omega), ad 0 (by omega) (by omega) (by omega) (by omega) (by omega), ad 6 (by omega) (by omega) (by omega) (by omega) (by omega), ad 14 (by omega) (by omega) (by omega) (by omega) (by omega), ne 15 (by unfold Lv; omega) (by omega) (by omega)]; exact c3
  · rw [ad 1 (by omega) (by omega) (by omega) (by omega) (by omega), a4]; exact hL
  · rw [ad 3 (by omega) (by omega) (by omega) (by omega) (by omega), ad 4 (by omega) (by omega) (by omega) (by omega) (by omega)]
    obtain ⟨mc, cap, g, l1, l2⟩ := c5
    refine ⟨mc, cap, g, (ne 3 (by unfold Lv; omega) (by omega) (by omega)).trans l1, ?_⟩
    rcases l2 with l2 | ⟨a1, a2, a3, a4, a5⟩
    · exact Or.inl l2
    · refine Or.inr ⟨a1, a2, a3, (ne 4 (by unfold Lv; omega) (by omega) (by omega)).trans a4, fun i hi => ?_⟩
      rw [a5 i hi]
      show some (AD (101 + i)) = some (adT AD n b q1 q2 q3 te2 (101 + i))
      rw [ad _ (by omega) (by omega) (by omega) (by omega) (by omega)]
  · rw [ad 5 (by omega) (by omega) (by omega) (by omega) (by omega)]
    obtain ⟨f, f1, f2⟩ := c6
    refine ⟨f, (ne 5 (by unfold Lv; omega) (by omega) (by omega)).trans f1, fun r hr => ⟨(f2 r hr).1, fun k hk => ?_⟩⟩
    rw [reach_new]; exact (f2 r hr).2 k hk
  · intro t h1 h2
    by_cases e : t = n + 1
    · subst e
      have v0 : tskS σ (n + 1) ow9 pe ra 0 (n + 1) = ow9 := by show zup _ _ _ _ = _; rw [zup_eq]
      have v1 : tskS σ (n + 1) ow9 pe ra 1 (n + 1) = pe := by show zup _ _ _ _ = _; rw [zup_eq]
      have v2 : tskS σ (n + 1) ow9 pe ra 2 (n + 1) = ra := by show zup _ _ _ _ = _; rw [zup_eq]
      have v3 : tskS σ (n + 1) ow9 pe ra 3 (n + 1) = 0 := by show zup _ _ _ _ = _; rw [zup_eq]
      have v4 : tskS σ (n + 1) ow9 pe ra 4 (n + 1) = 1 := by show zup _ _ _ _ = _; rw [zup_eq]
      have v5 : tskS σ (n + 1) ow9 pe ra 5 (n + 1) = 1 := by show zup _ _ _ _ = _; rw [zup_eq]
      have v6 : tskS σ (n + 1) ow9 pe ra 6 (n + 1) = 0 := by show zup _ _ _ _ = _; rw [zup_eq]
      have v7 : tskS σ (n + 1) ow9 pe ra 7 (n + 1) = -1 := by show zup _ _ _ _ = _; rw [zup_eq]
      have v8 : tskS σ (n + 1) ow9 pe ra 8 (n + 1) = 0 := by show zup _ _ _ _ = _; rw [zup_eq]
      refine ⟨?_, ⟨fun _ => 0, ?_, fun j hj => ?_⟩, ⟨fun _ => 0, ?_, fun j hj => ?_⟩, 0, -1, 0, 0, ?_, Or.inl rfl⟩
      · simp only [TF, v0, v1, v2, v3, v4, v5, v6, v7, v8, show 20 + 4 * (n + 1) = 24 + 4 * n by omega, show 21 + 4 * (n + 1) = 25 + 4 * n by omega, show 22 + 4 * (n + 1) = 26 + 4 * n by omega, show 23 + 4 * (n + 1) = 27 + 4 * n by omega, a0, a1, a2, a3]
        exact hB
      · rw [show 21 + 4 * (n + 1) = 25 + 4 * n by omega, a1]; exact hQ1
      · rw [v8] at hj; omega
      · rw [show 22 + 4 * (n + 1) = 26 + 4 * n by omega, a2]; exact hQ2
      · rw [v8] at hj; omega
      · rw [show 23 + 4 * (n + 1) = 27 + 4 * n by omega, a3]; exact hQ3
    · obtain ⟨t1, ⟨f, f1, f2⟩, ⟨g, g1, g2⟩, x1, x2, x3, x4, x5, x6⟩ := c7 t h1 (by omega)
      have k0 := ad (20 + 4 * t) (by omega) (by omega) (by omega) (by omega) (by omega)
      have k1 := ad (21 + 4 * t) (by omega) (by omega) (by omega) (by omega) (by omega)
      have k2 := ad (22 + 4 * t) (by omega) (by omega) (by omega) (by omega) (by omega)
      have k3 := ad (23 + 4 * t) (by omega) (by omega) (by omega) (by omega) (by omega)
      have sx : ∀ k : Nat, tskS σ (n + 1) ow9 pe ra k t = σ k t := fun k => tskS_o σ n ow9 pe ra k t e
      refine ⟨?_, ⟨f, by rw [k1, ne _ (by unfold Lv; omega) (by omega) (by omega)]; exact f1, by rw [sx 8]; exact f2⟩, ⟨g, by rw [k2, ne _ (by unfold Lv; omega) (by omega) (by omega)]; exact g1, by rw [sx 8]; exact g2⟩, x1, x2, x3, x4, by rw [k3, ne _ (by unfold Lv; omega) (by omega) (by omega)]; exact x5, x6⟩
      rw [k0, ne _ (by unfold Lv; omega) (by omega) (by omega), t1]
      simp only [TF, k1, k2, k3, sx]
  · intro i h1 h2
    rw [ad (100 + i) (by omega) (by omega) (by omega) (by omega) (by omega), ne _ (by unfold Lv; omega) (by omega) (by omega)]; exact c8 i h1 h2
  · obtain ⟨⟨kn, ct, en, p1, p2⟩, ⟨f, f1⟩, p3⟩ := c9
    have ka : ∀ k : Nat, 6 ≤ k → k ≤ 13 → adT AD n b q1 q2 q3 te2 k = AD k := fun k a b => ad k (by omega) (by omega) (by omega) (by omega) (by omega)
    refine ⟨⟨kn, ct, en, ?_, p2⟩, ⟨f, by rw [ka 8 (by omega) (by omega), ne 8 (by unfold Lv; omega) (by omega) (by omega)]; exact f1⟩, fun j hj => ?_⟩
    · rw [ka 6 (by omega) (by omega), ne 6 (by unfold Lv; omega) (by omega) (by omega), p1]
      simp only [PF, ka 7 (by omega) (by omega), ka 8 (by omega) (by omega), ka 9 (by omega) (by omega), ka 10 (by omega) (by omega), ka 11 (by omega) (by omega), ka 12 (by omega) (by omega), ka 13 (by omega) (by omega)]
    · obtain ⟨f, f1⟩ := p3 j hj
      exact ⟨f, by rw [ka j (by omega) (by omega), ne j (by unfold Lv; omega) (by omega) (by omega)]; exact f1⟩
  · obtain ⟨x1, x2, x3, x4, x5, x6⟩ := c10
    exact ⟨x1, x2, x3, x4, by rw [ad 14 (by omega) (by omega) (by omega) (by omega) (by omega), ne 14 (by unfold Lv; omega) (by omega) (by omega)]; exact x5, x6⟩
/-- the class's new places are new -/
def Fn (h h' : hF) (AD AD' : Nat → Nat) (n m n' m' : Nat) : Prop := (∀ a : Nat, h a ≠ none → (∀ k : Nat, Lv n m k → a ≠ AD k) → h' a = h a) ∧ ∀ k : Nat, Lv n' m' k → (Lv n m k ∧ AD' k = AD k) ∨ h (AD' k) = none
theorem Fn.of {h h' : hF} {AD : Nat → Nat} {n m : Nat} (x : Fc h h' AD n m) : Fn h h' AD AD n m n m := ⟨x, fun k hk => Or.inl ⟨hk, rfl⟩⟩
theorem Fn.c {h h1 h2 : hF} {AD AD' : Nat → Nat} {n m n' m' : Nat} (x : Fn h h1 AD AD' n m n' m') (y : Fc h1 h2 AD' n' m') : Fn h h2 AD AD' n m n' m' := ⟨fun a q1 q2 => by
  have e := x.1 a q1 q2
  refine (y a (by rw [e]; exact q1) (fun k hk z => ?_)).trans e
  rcases x.2 k hk with ⟨z1, z2⟩ | z1
  · exact q2 k z1 (by rw [z, z2])
  · exact q1 (by rw [z]; exact z1), x.2⟩
set_option maxRecDepth 100000 in
set_option maxHeartbeats 4000000 in
theorem c_interrupt {l : Launch} {G : Gt} {B : Nat} {h : hF} {AD : Nat → Nat} {σ : St} {n m : Nat} (hL : Cl G h AD σ n m) (hO : OK n m σ) {x : Int} (hx9 : -9223372036854775808 ≤ x ∧ x < 9223372036854775808) {y : Int} (hy9 : -9223372036854775808 ≤ y ∧ y < 9223372036854775808) : Ct l G B yX5_interrupt cX5_interrupt 6 (some .int) 7 2 29 [.ref (AD 15), .long (lZ x), .long (lZ y)] h (fun v h' => v = .int (iZ (intR m x y)) ∧ ∃ AD2 : Nat → Nat, Cl G h' AD2 (intS σ m x y) n (intN m x y) ∧ Fn h h' AD AD2 n m n (intN m x y) ∧ AD2 15 = AD 15) := by
  refine Ct.of (by decide) (Nat.le_of_ble_eq_true rfl) ?_
  intro p e s m9 below meth c A hX hR hin
  have hC := hL.1
  have hn16 := hO.1
  have hm8 := hO.2.1
  have h_C := hC.2.1.1
  have hTL := hC.2.2.1
  have hIL := hC.2.2.2.1
  have hTL9 := hTL
  obtain ⟨mcT, capT, gT, h_TL, -⟩ := hTL9
  have hIL9 := hIL
  obtain ⟨mcI, capI, gI9, h_IL, -⟩ := hIL9
  have h_S := hC.2.1.2
  refine j_lload_n hX dX5_interrupt_0 rfl ?_
  refine j_callS hX cs_X5_30 (c_isLength (by omega)) dX5_interrupt_1 rfl (by exact ⟨Nat.le_of_ble_eq_true rfl, Nat.le_of_ble_eq_true rfl⟩) (by exact ⟨Nat.le_of_ble_eq_true rfl, Nat.le_of_ble_eq_true rfl⟩) (by exact Nat.le_of_ble_eq_true rfl) (fun v1 h1 hp1 => ?_) rfl
  obtain ⟨⟨y1, rfl, hy1⟩, rfl⟩ := hp1
  refine j_if_eq hX 14 dX5_interrupt_4 (by decide) (by omega) (fun c4 => ?_) (fun c4 => ?_)
  · refine j_bipush hX dX5_interrupt_14 (by decide) ?_
    refine j_wide (k := 2) (n := 29) (by first | omega | exact Nat.le_of_ble_eq_true rfl) (by first | omega | exact Nat.le_of_ble_eq_true rfl) ?_
    exact j_iret hX hR dX5_interrupt_16 ⟨by rw [intR, if_neg (by omega)], AD, by rw [intS, if_neg (by omega), intN, if_neg (by omega)]; exact ⟨hL, Fn.of (Fc.rf h AD n m), rfl⟩⟩
  · refine j_lload_n hX dX5_interrupt_7 rfl ?_
    refine j_callS hX cs_X5_73 (c_isPeriod (by omega)) dX5_interrupt_8 rfl (by exact ⟨Nat.le_of_ble_eq_true rfl, Nat.le_of_ble_eq_true rfl⟩) (by exact ⟨Nat.le_of_ble_eq_true rfl, Nat.le_of_ble_eq_true rfl⟩) (by exact Nat.le_of_ble_eq_true rfl) (fun v8 h8 hp8 => ?_) rfl
    obtain ⟨⟨y8, rfl, hy8⟩, rfl⟩ := hp8
    refine j_if_ne hX 17 dX5_interrupt_11 (by decide) (by omega) (fun c11 => ?_) (fun c11 => ?_)
    · refine j_aload_n hX dX5_interrupt_17 rfl ?_
      refine j_get hX fl_X5_10_7 dX5_interrupt_18 h_S (by rfl) ?_
      refine j_get hX fl_X5_172_2 dX5_interrupt_21 h_C (by rfl) ?_
      refine j_callV hX cv_X5_40 (c_size hIL) dX5_interrupt_24 h_IL rfl rfl (by exact ⟨Nat.le_of_ble_eq_true rfl, Nat.le_of_ble_eq_true rfl⟩) (by exact ⟨Nat.le_of_ble_eq_true rfl, Nat.le_of_ble_eq_true rfl⟩) (by exact Nat.le_of_ble_eq_true rfl) (fun v24 h24 hp24 => ?_) rfl
      obtain ⟨rfl, rfl⟩ := hp24
      refine j_iconst hX dX5_interrupt_27 ?_
      refine j_iadd hX dX5_interrupt_28 ?_
      refine j_istore hX dX5_interrupt_29 (by decide) ?_
      refine j_iload hX dX5_interrupt_31 rfl ?_
      refine j_bipush hX dX5_interrupt_33 (by decide) ?_
      refine j_icmp_le hX 41 dX5_interrupt_35 (by decide) (by omega) (by omega) (fun c35 => ?_) (fun c35 => ?_)
      · refine j_aload_n hX dX5_interrupt_41 rfl ?_
        refine j_get hX fl_X5_10_7 dX5_interrupt_42 h_S (by rfl) ?_
        refine j_get hX fl_X5_172_2 dX5_interrupt_45 h_C (by rfl) ?_
        refine j_new hX nw_X5_175 dX5_interrupt_48 (by exact ⟨Nat.le_of_ble_eq_true rfl, Nat.le_of_ble_eq_true rfl⟩) (fun q48 hq48 => ?_)
        have h_NP : hup h q48 (.inr (4, [.int (iZ 0), .long (lZ 0), .long (lZ 0), .long (lZ 0), .long (lZ 0), .long (lZ 0), .int (iZ 0)])) q48 = _ := hup_eq _ _ _
        refine j_dup hX dX5_interrupt_51 rfl ?_
        refine j_iload hX dX5_interrupt_52 rfl ?_
        refine j_ineg hX dX5_interrupt_54 ?_
        refine j_lload_n hX dX5_interrupt_55 rfl ?_
        refine j_lload_n hX dX5_interrupt_56 rfl ?_
        refine j_callI hX ci_X5_177 (c_Pinit4 (si := -((m : Int) + 1)) (ow9 := x) (pe := y) h_NP) dX5_interrupt_57 rfl (by exact ⟨Nat.le_of_ble_eq_true rfl, Nat.le_of_ble_eq_true rfl⟩) (by exact ⟨Nat.le_of_ble_eq_true rfl, Nat.le_of_ble_eq_true rfl⟩) (by exact Nat.le_of_ble_eq_true rfl) (fun h57 hp57 => ?_) rfl
        rw [hup_hup] at hp57
        subst hp57
        have h_NP : (hup h q48 (.inr (4, [.int (iZ (-((m : Int) + 1))), .long (lZ y), .long (lZ x), .long (lZ 0), .long (lZ 0), .long (lZ 1), .int (iZ 1)]))) q48 = some (.inr (4, [.int (iZ (-((m : Int) + 1))), .long (lZ y), .long (lZ x), .long (lZ 0), .long (lZ 0), .long (lZ 1), .int (iZ 1)])) := hup_eq _ _ _
        have q3 : AD 3 ≠ q48 := fun z => by rw [z] at h_IL; rw [hq48] at h_IL; cases h_IL
        have h_IL : (hup h q48 (.inr (4, [.int (iZ (-((m : Int) + 1))), .long (lZ y), .long (lZ x), .long (lZ 0), .long (lZ 0), .long (lZ 1), .int (iZ 1)]))) (AD 3) = _ := (hup_ne q3).trans h_IL
        have hIL2 : LsAt G (hup h q48 (.inr (4, [.int (iZ (-((m : Int) + 1))), .long (lZ y), .long (lZ x), .long (lZ 0), .long (lZ 0), .long (lZ 1), .int (iZ 1)]))) (AD 3) (AD 4) m (fun i => some (AD (101 + i))) := hIL.keep (hup_ne q3) (fun z9 => hup_ne (fun z => hC.live (k := 4) (by unfold Lv; omega) (by rw [z]; exact hq48)))
        refine j_callV hX cv_X5_58 (c_add (f2 := fun i => some (if i = m then q48 else AD (101 + i))) hIL2 (by omega) h_NP rfl (List.mem_cons_of_mem _ List.mem_cons_self) (fun z9 => absurd z9 (by omega)) (fun i hi => by show some (if i = m then q48 else AD (101 + i)) = some (AD (101 + i)); rw [if_neg (by omega)]) (by show some (if m = m then q48 else AD (101 + m)) = some q48; rw [if_pos rfl])) dX5_interrupt_60 h_IL rfl rfl (by exact ⟨Nat.le_of_ble_eq_true rfl, Nat.le_of_ble_eq_true rfl⟩) (by exact ⟨Nat.le_of_ble_eq_true rfl, Nat.le_of_ble_eq_true rfl⟩) (by exact Nat.le_of_ble_eq_true rfl) (fun v60 h60 hp60 => ?_) rfl
        obtain ⟨rfl, te2, hLn, ht2, hen⟩ := hp60
        have hqt : q48 ≠ te2 := fun z => by
          rcases ht2 with ⟨z1, z2⟩ | z2
          · exact hC.live (k := 4) (by unfold Lv; omega) (by rw [← z2, ← z]; exact hq48)
          · rw [← z, hup_eq] at z2; cases z2
        have ht3 : (1 ≤ m ∧ te2 = AD 4) ∨ h te2 = none := ht2.imp id (fun z2 => by rw [hup_ne (fun z => hqt z.symm)] at z2; exact z2)
        have hIq : h60 q48 = some (.inr (4, IF (st1 (st1 σ 12 (m + 1) x) 13 (m + 1) y) (m + 1))) := by
          rw [hen q48 q3.symm hqt, hup_eq]
          have e12 : (st1 (st1 σ 12 (m + 1) x) 13 (m + 1) y) 12 (m + 1) = x := by show zup _ _ _ _ = _; rw [zup_eq]
          have e13 : (st1 (st1 σ 12 (m + 1) x) 13 (m + 1) y) 13 (m + 1) = y := by show zup _ _ _ _ = _; rw [zup_eq]
          simp only [IF, e12, e13]
          rfl
        have hC2 := hC.newI (ow9 := x) (pe := y) hO.1 (by omega) hq48 hqt ht3 hIq (by
            obtain ⟨a1, a2, a3, a4, a5⟩ := hLn
            refine ⟨a1, a2, a3, a4, ?_⟩
            rcases a5 with a5 | ⟨b1, b2, b3, b4, b5⟩
            · exact Or.inl a5
            · refine Or.inr ⟨b1, b2, b3, b4, fun i hi => ?_⟩
              rw [b5 i hi]
              show some (if i = m then q48 else AD (101 + i)) = some (adI AD m q48 te2 (101 + i))
              unfold adI
              by_cases e : i = m
              · rw [if_pos e, if_pos (by omega)]
              · rw [if_neg e, if_neg (by omega), if_neg (by omega)]) (fun a b1 b2 b3 => (hen a b1 b2).trans (hup_ne b3))
        have e15 : adI AD m q48 te2 15 = AD 15 := by unfold adI; rw [if_neg (by omega), if_neg (by omega)]
        have hFn : Fn h h60 AD (adI AD m q48 te2) n m n (m + 1) := ⟨fun a b1 b2 => (hen a (fun z => b2 3 (by unfold Lv; omega) z) (fun z => by
            rcases ht3 with ⟨z1, z2⟩ | z2
            · exact b2 4 (by unfold Lv; omega) (z.trans z2)
            · exact b1 (by rw [z]; exact z2))).trans (hup_ne (fun z => b1 (by rw [z]; exact hq48))), fun k hk => by
          unfold adI
          by_cases e1 : k = 101 + m
          · rw [if_pos e1]; exact Or.inr hq48
          · rw [if_neg e1]
            by_cases e2 : k = 4
            · rw [if_pos e2]
              rcases ht3 with ⟨z1, z2⟩ | z2
              · exact Or.inl ⟨by unfold Lv; omega, by rw [z2, e2]⟩
              · exact Or.inr z2
            · rw [if_neg e2]; exact Or.inl ⟨by unfold Lv at *; omega, rfl⟩⟩
        have h_S := hC2.2.1.2
        rw [e15] at h_S
        refine j_pop hX dX5_interrupt_63 rfl ?_
        refine j_aload_n hX dX5_interrupt_64 rfl ?_
        refine j_callVv hX cv_X5_62 (e15 ▸ c_forget hC2 hO.1) dX5_interrupt_65 h_S rfl rfl (by exact ⟨Nat.le_of_ble_eq_true rfl, Nat.le_of_ble_eq_true rfl⟩) (by exact ⟨Nat.le_of_ble_eq_true rfl, Nat.le_of_ble_eq_true rfl⟩) (by exact Nat.le_of_ble_eq_true rfl) (fun h65 hp65 => ?_) rfl
        obtain ⟨hC3, hK3, hP3, hF3⟩ := hp65
        refine j_iload hX dX5_interrupt_68 rfl ?_
        refine j_wide (k := 2) (n := 29) (by first | omega | exact Nat.le_of_ble_eq_true rfl) (by first | omega | exact Nat.le_of_ble_eq_true rfl) ?_
        exact j_iret hX hR dX5_interrupt_70 ⟨by rw [intR, if_pos ⟨by omega, by omega⟩, if_neg (by omega)], _, by rw [intS, if_pos ⟨by omega, by omega, by omega⟩, intN, if_pos ⟨by omega, by omega, by omega⟩]; exact ⟨⟨hC3, hK3, hP3⟩, hFn.c hF3, e15⟩⟩
      · refine j_bipush hX dX5_interrupt_38 (by decide) ?_
        refine j_wide (k := 2) (n := 29) (by first | omega | exact Nat.le_of_ble_eq_true rfl) (by first | omega | exact Nat.le_of_ble_eq_true rfl) ?_
        exact j_iret hX hR dX5_interrupt_40 ⟨by rw [intR, if_pos ⟨by omega, by omega⟩, if_pos (by omega)], AD, by rw [intS, if_neg (by omega), intN, if_neg (by omega)]; exact ⟨hL, Fn.of (Fc.rf h AD n m), rfl⟩⟩
    · refine j_bipush hX dX5_interrupt_14 (by decide) ?_
      refine j_wide (k := 2) (n := 29) (by first | omega | exact Nat.le_of_ble_eq_true rfl) (by first | omega | exact Nat.le_of_ble_eq_true rfl) ?_
      exact j_iret hX hR dX5_interrupt_16 ⟨by rw [intR, if_neg (by omega)], AD, by rw [intS, if_neg (by omega), intN, if_neg (by omega)]; exact ⟨hL, Fn.of (Fc.rf h AD n m), rfl⟩⟩
