/-! BOTH SIDES TOGETHER: what holds between two calls of the law -/
theorem OK.st0 {n m : Nat} {σ : St} (hO : OK n m σ) {t : Nat} {x : Int} (hx : 1 ≤ x ∧ x ≤ 1000) : OK n m (st1 σ 0 t x) := by
  refine ⟨hO.1, hO.2.1, fun o h1 h2 => ?_, fun i h1 h2 => hO.2.2.2 i h1 h2⟩
  obtain ⟨a0, a1, a2, a3, a4, a5, a6, a7, a8, a9⟩ := hO.2.2.1 o h1 h2
  by_cases e : o = t
  · subst e
    have e0 : st1 σ 0 o x 0 o = x := by rw [st1_at, if_pos ⟨rfl, rfl⟩]
    exact ⟨by rw [e0]; exact hx, a1, a2, a3, a4, a5, a6, a7, a8, a9⟩
  · exact ⟨by rw [st1_o σ 0 t x e]; exact a0, a1, a2, a3, a4, a5, a6, a7, a8, a9⟩
theorem OK.st3 {n m : Nat} {σ : St} (hO : OK n m σ) {t : Nat} {x : Int} (hx : 0 ≤ x ∧ x ≤ 20000) : OK n m (st1 σ 3 t x) := by
  refine ⟨hO.1, hO.2.1, fun o h1 h2 => ?_, fun i h1 h2 => hO.2.2.2 i h1 h2⟩
  obtain ⟨a0, a1, a2, a3, a4, a5, a6, a7, a8, a9⟩ := hO.2.2.1 o h1 h2
  by_cases e : o = t
  · subst e
    have e0 : st1 σ 3 o x 3 o = x := by rw [st1_at, if_pos ⟨rfl, rfl⟩]
    exact ⟨a0, a1, a2, by rw [e0]; exact hx, a4, a5, a6, a7, a8, a9⟩
  · exact ⟨a0, a1, a2, by rw [st1_o σ 3 t x e]; exact a3, a4, a5, a6, a7, a8, a9⟩
theorem OK.st4 {n m : Nat} {σ : St} (hO : OK n m σ) {t : Nat} {x : Int} (hx : 1 ≤ x ∧ x ≤ 20) : OK n m (st1 σ 4 t x) := by
  refine ⟨hO.1, hO.2.1, fun o h1 h2 => ?_, fun i h1 h2 => hO.2.2.2 i h1 h2⟩
  obtain ⟨a0, a1, a2, a3, a4, a5, a6, a7, a8, a9⟩ := hO.2.2.1 o h1 h2
  by_cases e : o = t
  · subst e
    have e0 : st1 σ 4 o x 4 o = x := by rw [st1_at, if_pos ⟨rfl, rfl⟩]
    exact ⟨a0, a1, a2, a3, by rw [e0]; exact hx, a5, a6, a7, a8, a9⟩
  · exact ⟨a0, a1, a2, a3, by rw [st1_o σ 4 t x e]; exact a4, a5, a6, a7, a8, a9⟩
theorem OK.st5 {n m : Nat} {σ : St} (hO : OK n m σ) {t : Nat} {x : Int} (hx : 1 ≤ x ∧ x ≤ 20000) : OK n m (st1 σ 5 t x) := by
  refine ⟨hO.1, hO.2.1, fun o h1 h2 => ?_, fun i h1 h2 => hO.2.2.2 i h1 h2⟩
  obtain ⟨a0, a1, a2, a3, a4, a5, a6, a7, a8, a9⟩ := hO.2.2.1 o h1 h2
  by_cases e : o = t
  · subst e
    have e0 : st1 σ 5 o x 5 o = x := by rw [st1_at, if_pos ⟨rfl, rfl⟩]
    exact ⟨a0, a1, a2, a3, a4, by rw [e0]; exact hx, a6, a7, a8, a9⟩
  · exact ⟨a0, a1, a2, a3, a4, by rw [st1_o σ 5 t x e]; exact a5, a6, a7, a8, a9⟩
theorem OK.st6 {n m : Nat} {σ : St} (hO : OK n m σ) {t : Nat} {x : Int} (hx : 0 ≤ x ∧ x ≤ 1000) : OK n m (st1 σ 6 t x) := by
  refine ⟨hO.1, hO.2.1, fun o h1 h2 => ?_, fun i h1 h2 => hO.2.2.2 i h1 h2⟩
  obtain ⟨a0, a1, a2, a3, a4, a5, a6, a7, a8, a9⟩ := hO.2.2.1 o h1 h2
  by_cases e : o = t
  · subst e
    have e0 : st1 σ 6 o x 6 o = x := by rw [st1_at, if_pos ⟨rfl, rfl⟩]
    exact ⟨a0, a1, a2, a3, a4, a5, by rw [e0]; exact hx, a7, a8, a9⟩
  · exact ⟨a0, a1, a2, a3, a4, a5, by rw [st1_o σ 6 t x e]; exact a6, a7, a8, a9⟩
theorem OK.st7 {n m : Nat} {σ : St} (hO : OK n m σ) {t : Nat} {x : Int} (hx : -1 ≤ x ∧ x < σ 1 t) : OK n m (st1 σ 7 t x) := by
  refine ⟨hO.1, hO.2.1, fun o h1 h2 => ?_, fun i h1 h2 => hO.2.2.2 i h1 h2⟩
  obtain ⟨a0, a1, a2, a3, a4, a5, a6, a7, a8, a9⟩ := hO.2.2.1 o h1 h2
  by_cases e : o = t
  · subst e
    have e0 : st1 σ 7 o x 7 o = x := by rw [st1_at, if_pos ⟨rfl, rfl⟩]
    exact ⟨a0, a1, a2, a3, a4, a5, a6, by rw [e0]; exact hx, a8, a9⟩
  · exact ⟨a0, a1, a2, a3, a4, a5, a6, by rw [st1_o σ 7 t x e]; exact a7, a8, a9⟩
theorem OK.sec {n m : Nat} {σ : St} (hO : OK n m σ) {t : Nat} (ht : 1 ≤ t ∧ t ≤ n) {y x : Int} (hy : 1 ≤ y ∧ y ≤ 32) (hx : 1 ≤ x ∧ x ≤ 1000) (hs : σ 8 t ≠ 10) : OK n m (st1 (st1 (st1 σ 9 (10 * t - 10 + (σ 8 t).toNat) y) 10 (10 * t - 10 + (σ 8 t).toNat) x) 8 t (σ 8 t + 1)) := by
  refine ⟨hO.1, hO.2.1, fun o h1 h2 => ?_, fun i h1 h2 => hO.2.2.2 i h1 h2⟩
  obtain ⟨a0, a1, a2, a3, a4, a5, a6, a7, a8, a9⟩ := hO.2.2.1 o h1 h2
  have ht8 := (hO.2.2.1 t ht.1 ht.2).2.2.2.2.2.2.2.2.1
  have r9 : ∀ i : Nat, (st1 (st1 (st1 σ 9 (10 * t - 10 + (σ 8 t).toNat) y) 10 (10 * t - 10 + (σ 8 t).toNat) x) 8 t (σ 8 t + 1)) 9 i = if i = 10 * t - 10 + (σ 8 t).toNat then y else σ 9 i := fun i => rfl
  have r10 : ∀ i : Nat, (st1 (st1 (st1 σ 9 (10 * t - 10 + (σ 8 t).toNat) y) 10 (10 * t - 10 + (σ 8 t).toNat) x) 8 t (σ 8 t + 1)) 10 i = if i = 10 * t - 10 + (σ 8 t).toNat then x else σ 10 i := fun i => rfl
  have r8 : (st1 (st1 (st1 σ 9 (10 * t - 10 + (σ 8 t).toNat) y) 10 (10 * t - 10 + (σ 8 t).toNat) x) 8 t (σ 8 t + 1)) 8 o = if o = t then σ 8 t + 1 else σ 8 o := by
    rw [st1_at]
    by_cases e : o = t
    · rw [if_pos ⟨rfl, e⟩, if_pos e]
    · rw [if_neg (fun z => e z.2), if_neg e]; rfl
  refine ⟨a0, a1, a2, a3, a4, a5, a6, a7, ?_, fun k hk => ?_⟩
  · rw [r8]; split <;> omega
  · rw [r8] at hk
    rw [r9, r10]
    by_cases e : 10 * o - 10 + k = 10 * t - 10 + (σ 8 t).toNat
    · rw [if_pos e, if_pos e]; exact ⟨hy, hx⟩
    · rw [if_neg e, if_neg e]
      refine a9 k ?_
      by_cases e2 : o = t
      · subst e2
        rw [if_pos rfl] at hk
        have : k ≠ (σ 8 o).toNat := fun z => e (by rw [z])
        omega
      · rw [if_neg e2] at hk; exact hk
theorem OK.tsk {n m : Nat} {σ : St} (hO : OK n m σ) {x y r : Int} (hx : 1 ≤ x ∧ x ≤ 1000) (hy : 1 ≤ y ∧ y ≤ 20000) (hr : 0 ≤ r ∧ r ≤ 255) (hn : n ≠ 16) : OK (n + 1) m (tskS σ (n + 1) x y r) := by
  refine ⟨by have := hO.1; omega, hO.2.1, fun o h1 h2 => ?_, fun i h1 h2 => hO.2.2.2 i h1 h2⟩
  by_cases e : o = n + 1
  · subst e
    have v0 : tskS σ (n + 1) x y r 0 (n + 1) = x := by show zup _ _ _ _ = _; rw [zup_eq]
    have v1 : tskS σ (n + 1) x y r 1 (n + 1) = y := by show zup _ _ _ _ = _; rw [zup_eq]
    have v2 : tskS σ (n + 1) x y r 2 (n + 1) = r := by show zup _ _ _ _ = _; rw [zup_eq]
    have v3 : tskS σ (n + 1) x y r 3 (n + 1) = 0 := by show zup _ _ _ _ = _; rw [zup_eq]
    have v4 : tskS σ (n + 1) x y r 4 (n + 1) = 1 := by show zup _ _ _ _ = _; rw [zup_eq]
    have v5 : tskS σ (n + 1) x y r 5 (n + 1) = 1 := by show zup _ _ _ _ = _; rw [zup_eq]
    have v6 : tskS σ (n + 1) x y r 6 (n + 1) = 0 := by show zup _ _ _ _ = _; rw [zup_eq]
    have v7 : tskS σ (n + 1) x y r 7 (n + 1) = -1 := by show zup _ _ _ _ = _; rw [zup_eq]
    have v8 : tskS σ (n + 1) x y r 8 (n + 1) = 0 := by show zup _ _ _ _ = _; rw [zup_eq]
    unfold OKt
    rw [v0, v1, v2, v3, v4, v5, v6, v7, v8]
    exact ⟨hx, hy, hr, by omega, by omega, by omega, by omega, by omega, by omega, fun k hk => by omega⟩
  · have h := hO.2.2.1 o h1 (by omega)
    have sx : ∀ k : Nat, tskS σ (n + 1) x y r k o = σ k o := fun k => tskS_o σ n x y r k o e
    have e9 : tskS σ (n + 1) x y r 9 = σ 9 := rfl
    have e10 : tskS σ (n + 1) x y r 10 = σ 10 := rfl
    unfold OKt at h ⊢
    rw [sx 0, sx 1, sx 2, sx 3, sx 4, sx 5, sx 6, sx 7, sx 8, e9, e10]
    exact h
theorem OK.int {n m : Nat} {σ : St} (hO : OK n m σ) {x y : Int} (hx : 1 ≤ x ∧ x ≤ 1000) (hy : 1 ≤ y ∧ y ≤ 20000) (hm : m ≠ 8) : OK n (m + 1) (st1 (st1 σ 12 (m + 1) x) 13 (m + 1) y) := by
  refine ⟨hO.1, by have := hO.2.1; omega, fun o h1 h2 => hO.2.2.1 o h1 h2, fun i h1 h2 => ?_⟩
  by_cases e : i = m + 1
  · subst e
    have v0 : st1 (st1 σ 12 (m + 1) x) 13 (m + 1) y 12 (m + 1) = x := by show zup _ _ _ _ = _; rw [zup_eq]
    have v1 : st1 (st1 σ 12 (m + 1) x) 13 (m + 1) y 13 (m + 1) = y := by show zup _ _ _ _ = _; rw [zup_eq]
    unfold OKi
    rw [v0, v1]
    exact ⟨hx, hy⟩
  · have h := hO.2.2.2 i h1 (by omega)
    unfold OKi at h ⊢
    rw [show st1 (st1 σ 12 (m + 1) x) 13 (m + 1) y 12 i = σ 12 i by rw [st1_o _ _ _ _ e, st1_o _ _ _ _ e], show st1 (st1 σ 12 (m + 1) x) 13 (m + 1) y 13 i = σ 13 i by rw [st1_o _ _ _ _ e, st1_o _ _ _ _ e]]
    exact h
theorem OK.pSet {n m : Nat} {σ : St} (hO : OK n m σ) {z x : Int} : OK n m (setS σ n 3 z 0 20000 x) ∧ OK n m (setS σ n 6 z 0 1000 x) ∧ OK n m (setS σ n 7 z (-1) (perZ σ z) x) := by
  refine ⟨?_, ?_, ?_⟩
  · unfold setS; split
    · rename_i h; exact hO.st3 h.2
    · exact hO
  · unfold setS; split
    · rename_i h; exact hO.st6 h.2
    · exact hO
  · unfold setS; split
    · rename_i h
      refine hO.st7 ?_
      have := h.2
      unfold perZ at this
      omega
    · exact hO
theorem OK.pBur {n m : Nat} {σ : St} (hO : OK n m σ) {z y x : Int} : OK n m (burS σ n z y x) := by
  unfold burS; split
  · rename_i h; exact (hO.st4 h.2.1).st5 h.2.2
  · exact hO
theorem OK.pSec {n m : Nat} {σ : St} (hO : OK n m σ) {z y x : Int} : OK n m (secS σ n z y x) := by
  unfold secS; split
  · rename_i h; exact hO.sec ⟨by omega, by omega⟩ h.2.1 h.2.2.1 h.2.2.2
  · exact hO
theorem OK.pTsk {n m : Nat} {σ : St} (hO : OK n m σ) {x y r : Int} : OK (tskN n x y r) m (tskT σ n x y r) := by
  unfold tskN tskT; split
  · rename_i h; exact hO.tsk h.1 h.2.1 h.2.2.1 h.2.2.2
  · exact hO
theorem OK.pInt {n m : Nat} {σ : St} (hO : OK n m σ) {x y : Int} : OK n (intN m x y) (intS σ m x y) := by
  unfold intN intS; split
  · rename_i h; exact hO.int h.1 h.2.1 h.2.2
  · exact hO
theorem Mo.keep {G : Gt} {h h' : hF} {b : Nat} {A : Nat → Nat} {σ : St} {n m : Nat} {sp tu th : Int} (hM : Mo G h b A σ n m sp tu th) (hb : h' b = h b) (ha : ∀ k : Nat, isA k = true → h' (A k) = h (A k)) : Mo G h' b A σ n m sp tu th := ⟨hb.trans hM.1, fun k hk => (ha k (isA_of hk)).trans (hM.2.1 k hk), hM.2.2.1, fun k hk => by obtain ⟨f, hf⟩ := hM.2.2.2 k hk; exact ⟨f, (ha k hk).trans hf⟩⟩
theorem Cl.keep {G : Gt} {h h' : hF} {AD : Nat → Nat} {σ : St} {n m : Nat} (hL : Cl G h AD σ n m) (hn : n ≤ 16) (e : ∀ k : Nat, Lv n m k → h' (AD k) = h (AD k)) : Cl G h' AD σ n m := by
  obtain ⟨⟨c1, ⟨c2, c3⟩, c4, c5, c6, c7, c8, c9, c10⟩, hK, hP⟩ := hL
  refine ⟨⟨c1, ⟨?_, ?_⟩, ?_, ?_, ?_, ?_, ?_, ?_, ?_⟩, ?_, ?_⟩
  · rw [e 0 (by unfold Lv; omega)]; exact c2
  · rw [e 15 (by unfold Lv; omega)]; exact c3
  · exact c4.keep (e 1 (by unfold Lv; omega)) (fun z => e 2 (by unfold Lv; omega))
  · exact c5.keep (e 3 (by unfold Lv; omega)) (fun z => e 4 (by unfold Lv; omega))
  · obtain ⟨f, f1, f2⟩ := c6
    exact ⟨f, (e 5 (by unfold Lv; omega)).trans f1, f2⟩
  · intro t h1 h2
    obtain ⟨t1, ⟨f, f1, f2⟩, ⟨g, g1, g2⟩, x1, x2, x3, x4, x5, x6⟩ := c7 t h1 h2
    exact ⟨(e _ (by unfold Lv; omega)).trans t1, ⟨f, (e _ (by unfold Lv; omega)).trans f1, f2⟩, ⟨g, (e _ (by unfold Lv; omega)).trans g1, g2⟩, x1, x2, x3, x4, (e _ (by unfold Lv; omega)).trans x5, x6⟩
  · intro i h1 h2
    rw [e _ (by unfold Lv; omega)]; exact c8 i h1 h2
  · obtain ⟨⟨kn, ct, en, p1, p2⟩, ⟨f, f1⟩, p3⟩ := c9
    refine ⟨⟨kn, ct, en, (e 6 (by unfold Lv; omega)).trans p1, p2⟩, ⟨f, (e 8 (by unfold Lv; omega)).trans f1⟩, fun j hj => ?_⟩
    obtain ⟨f, f1⟩ := p3 j hj
    exact ⟨f, (e j (by unfold Lv; omega)).trans f1⟩
  · obtain ⟨x1, x2, x3, x4, x5, x6⟩ := c10
    exact ⟨x1, x2, x3, x4, (e _ (by unfold Lv; omega)).trans x5, x6⟩
  · exact hK.oth (fun t h1 h2 => e _ (by unfold Lv; omega))
  · exact hP.oth (e 6 (by unfold Lv; omega)) (e 7 (by unfold Lv; omega))
/-- the class's object at bx, the reference's at bm, the law's row at bo: apart, of one state -/
def LI (G : Gt) (h : hF) (bx bm bo : Nat) (A9 : Nat → Nat) (σ : St) (n m : Nat) : Prop := ∃ (AD : Nat → Nat) (sp tu th : Int) (fo : Nat → Int), Cl G h AD σ n m ∧ AD 15 = bx ∧ Mo G h bm A9 σ n m sp tu th ∧ OK n m σ ∧ h bo = some (gJ G 1 fo) ∧ (∀ k : Nat, Lv n m k → AD k ≠ bm ∧ AD k ≠ bo ∧ ∀ j : Nat, isA j = true → AD k ≠ A9 j) ∧ bo ≠ bm ∧ ∀ j : Nat, isA j = true → bo ≠ A9 j
theorem isA_some {G : Gt} {h : hF} {b : Nat} {A : Nat → Nat} {σ : St} {n m : Nat} {sp tu th : Int} (hM : Mo G h b A σ n m sp tu th) {k : Nat} (hk : isA k = true) : h (A k) ≠ none := by
  obtain ⟨f, hf⟩ := hM.2.2.2 k hk
  rw [hf]; exact fun z => by cases z
/-- behind the class's call: the reference's object is as it was -/
theorem LI.mid {G : Gt} {h h1 : hF} {bm bo : Nat} {A9 AD AD' : Nat → Nat} {σ : St} {n m n' m' : Nat} {sp tu th : Int} {fo : Nat → Int} (hM : Mo G h bm A9 σ n m sp tu th) (ho : h bo = some (gJ G 1 fo)) (hd : ∀ k : Nat, Lv n m k → AD k ≠ bm ∧ AD k ≠ bo ∧ ∀ j : Nat, isA j = true → AD k ≠ A9 j) (hF : Fn h h1 AD AD' n m n' m') : Mo G h1 bm A9 σ n m sp tu th ∧ h1 bo = some (gJ G 1 fo) ∧ ∀ k : Nat, Lv n' m' k → AD' k ≠ bm ∧ AD' k ≠ bo ∧ ∀ j : Nat, isA j = true → AD' k ≠ A9 j := by
  have hbm : h bm ≠ none := by rw [hM.1]; exact fun z => by cases z
  have hbo : h bo ≠ none := by rw [ho]; exact fun z => by cases z
  refine ⟨hM.keep (hF.1 bm hbm (fun k hk z => (hd k hk).1 z.symm)) (fun k hk => hF.1 _ (isA_some hM hk) (fun j hj z => (hd j hj).2.2 k hk z.symm)), (hF.1 bo hbo (fun k hk z => (hd k hk).2.1 z.symm)).trans ho, fun k hk => ?_⟩
  rcases hF.2 k hk with ⟨z1, z2⟩ | z1
  · rw [z2]; exact hd k z1
  · exact ⟨fun z => hbm (by rw [← z]; exact z1), fun z => hbo (by rw [← z]; exact z1), fun j hj z => isA_some hM hj (by rw [← z]; exact z1)⟩
/-- behind both calls -/
theorem LI.end {G : Gt} {h1 h2 : hF} {bx bm bo : Nat} {A9 AD' : Nat → Nat} {σ' : St} {n' m' : Nat} {sp tu th : Int} {fo : Nat → Int} (hL : Cl G h1 AD' σ' n' m') (hx : AD' 15 = bx) (hO : OK n' m' σ') (ho : h1 bo = some (gJ G 1 fo)) (hd : ∀ k : Nat, Lv n' m' k → AD' k ≠ bm ∧ AD' k ≠ bo ∧ ∀ j : Nat, isA j = true → AD' k ≠ A9 j) (hbo : bo ≠ bm ∧ ∀ j : Nat, isA j = true → bo ≠ A9 j) (hM : Mo G h2 bm A9 σ' n' m' sp tu th) (hF : Fm h1 h2 bm A9) : LI G h2 bx bm bo A9 σ' n' m' :=
  ⟨AD', sp, tu, th, fo, hL.keep hO.1 (fun k hk => hF _ (hd k hk).1 (fun j hj => (hd k hk).2.2 j hj)), hx, hM, hO, (hF bo hbo.1 hbo.2).trans ho, hd, hbo⟩
theorem flg.uniq {x y : Int} {P : Prop} (hx : flg x P) (hy : flg y P) : x = y := by
  rcases hx with ⟨a, b⟩ | ⟨a, b⟩ <;> rcases hy with ⟨c, d⟩ | ⟨c, d⟩
  · rw [a, c]
  · exact absurd b d
  · exact absurd d b
  · rw [a, c]
