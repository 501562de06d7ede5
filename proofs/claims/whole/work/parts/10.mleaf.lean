/-! THE REFERENCE'S OBJECT: rows with natural places; the picture Mo; what it reads -/
section JN
variable {p : Program} {l : Launch} {e : Env} {R : Room} {s : State} {m : MethodId} {args : Array Value} {below : List Frame} {meth : Method} {c : Code} {Q : State → Prop} {nL : Nat} {G : Gt} {A : Nat → Prop} {cells slots pc : Nat} {L : List (Nat × Value)} {st : List Value} {h : hF} {cc : ByteArray} {own : String} {B : Nat}
theorem J_abs {J0 : Nat → Nat → Nat → List (Nat × Value) → List Value → hF → Prop} {cells slots pc : Nat} {L : List (Nat × Value)} {st : List Value} {h : hF} (X : ∀ JX : Nat → Nat → Nat → List (Nat × Value) → List Value → hF → Prop, (∀ {cells slots pc : Nat} {L : List (Nat × Value)} {st : List Value} {h : hF}, J0 cells slots pc L st h → JX cells slots pc L st h) → (∀ {cells slots pc : Nat} {L : List (Nat × Value)} {st : List Value} {h : hF}, JX cells slots pc L st h → J0 cells slots pc L st h) → JX cells slots pc L st h) : J0 cells slots pc L st h := X J0 id id
theorem j_ialdN (hX : CX p s m args c cc nL own G B A) {a n : Nat} {f : Nat → Int} {i : Int} (j : Nat) (hj : i = (j : Int)) (hdg : decode cc pc = .ok (.iaload, 1)) (ha : h a = some (gI G n f)) (hi : j < n) (hn : n ≤ 1000) (kk : J p l e R s m args below meth c Q nL G A cells slots (pc + 1) L (.int (iZ (f j)) :: st) h) : J p l e R s m args below meth c Q nL G A cells slots pc L (.int (iZ i) :: .ref a :: st) h := by
  subst hj
  exact j_iald hX hdg ha ⟨by omega, by omega⟩ (by omega) kk
theorem j_laldN (hX : CX p s m args c cc nL own G B A) {a n : Nat} {f : Nat → Int} {i : Int} (j : Nat) (hj : i = (j : Int)) (hdg : decode cc pc = .ok (.laload, 1)) (ha : h a = some (gJ G n f)) (hi : j < n) (hn : n ≤ 1000) (kk : J p l e R s m args below meth c Q nL G A cells slots (pc + 1) L (.long (lZ (f j)) :: st) h) : J p l e R s m args below meth c Q nL G A cells slots pc L (.int (iZ i) :: .ref a :: st) h := by
  subst hj
  exact j_lald hX hdg ha ⟨by omega, by omega⟩ (by omega) kk
theorem j_zaldN (hX : CX p s m args c cc nL own G B A) {a n : Nat} {f : Nat → Int} {i : Int} (j : Nat) (hj : i = (j : Int)) (hdg : decode cc pc = .ok (.baload, 1)) (ha : h a = some (gZ G n f)) (hi : j < n) (hn : n ≤ 1000) (kk : J p l e R s m args below meth c Q nL G A cells slots (pc + 1) L (.int (iZ (f j)) :: st) h) : J p l e R s m args below meth c Q nL G A cells slots pc L (.int (iZ i) :: .ref a :: st) h := by
  subst hj
  exact j_zald hX hdg ha ⟨by omega, by omega⟩ (by omega) kk
theorem j_aaldN (hX : CX p s m args c cc nL own G B A) {a n : Nat} {f : Nat → Option Nat} {i : Int} (j : Nat) (hj : i = (j : Int)) (hdg : decode cc pc = .ok (.aaload, 1)) (ha : h a = some (gQ G n f)) (hi : j < n) (hn : n ≤ 1000) (kk : J p l e R s m args below meth c Q nL G A cells slots (pc + 1) L (va_rf (f j) :: st) h) : J p l e R s m args below meth c Q nL G A cells slots pc L (.int (iZ i) :: .ref a :: st) h := by
  subst hj
  exact j_aald hX hdg ha ⟨by omega, by omega⟩ (by omega) kk
theorem j_iastN (hX : CX p s m args c cc nL own G B A) {a n : Nat} {f : Nat → Int} {i x : Int} (j : Nat) (hj : i = (j : Int)) (hdg : decode cc pc = .ok (.iastore, 1)) (ha : h a = some (gI G n f)) (hi : j < n) (hn : n ≤ 1000) (kk : J p l e R s m args below meth c Q nL G A cells slots (pc + 1) L st (hup h a (gI G n (zup f j x)))) : J p l e R s m args below meth c Q nL G A cells slots pc L (.int (iZ x) :: .int (iZ i) :: .ref a :: st) h := by
  subst hj
  exact j_iast hX hdg ha ⟨by omega, by omega⟩ (by omega) kk
theorem j_lastN (hX : CX p s m args c cc nL own G B A) {a n : Nat} {f : Nat → Int} {i x : Int} (j : Nat) (hj : i = (j : Int)) (hdg : decode cc pc = .ok (.lastore, 1)) (ha : h a = some (gJ G n f)) (hi : j < n) (hn : n ≤ 1000) (kk : J p l e R s m args below meth c Q nL G A cells slots (pc + 1) L st (hup h a (gJ G n (zup f j x)))) : J p l e R s m args below meth c Q nL G A cells slots pc L (.long (lZ x) :: .int (iZ i) :: .ref a :: st) h := by
  subst hj
  exact j_last hX hdg ha ⟨by omega, by omega⟩ (by omega) kk
theorem j_zastN (hX : CX p s m args c cc nL own G B A) {a n : Nat} {f : Nat → Int} {i x : Int} (j : Nat) (hj : i = (j : Int)) (hdg : decode cc pc = .ok (.bastore, 1)) (ha : h a = some (gZ G n f)) (hi : j < n) (hn : n ≤ 1000) (hx : x = 0 ∨ x = 1) (kk : J p l e R s m args below meth c Q nL G A cells slots (pc + 1) L st (hup h a (gZ G n (zup f j x)))) : J p l e R s m args below meth c Q nL G A cells slots pc L (.int (iZ x) :: .int (iZ i) :: .ref a :: st) h := by
  subst hj
  exact j_zast hX hdg ha ⟨by omega, by omega⟩ (by omega) hx kk
end JN
def isA (k : Nat) : Bool := Nat.ble k 20 && (!(k == 11) && (!(k == 14) && (!(k == 15) && !(k == 16))))
def isB (k : Nat) : Bool := Nat.ble k 13 && !(k == 11)
def mcell (G : Gt) (k : Nat) (f : Nat → Int) : va_E := match k with
  | 0 => gJ G 17 f
  | 1 => gJ G 17 f
  | 2 => gI G 17 f
  | 3 => gJ G 17 f
  | 4 => gI G 17 f
  | 5 => gJ G 17 f
  | 6 => gJ G 17 f
  | 7 => gJ G 17 f
  | 8 => gI G 17 f
  | 9 => gI G 170 f
  | 10 => gJ G 170 f
  | 12 => gJ G 9 f
  | 13 => gJ G 9 f
  | 17 => gJ G 4 f
  | 18 => gJ G 4 f
  | 19 => gJ G 4 f
  | 20 => gZ G 4 f
  | _ => gJ G 17 f
abbrev MF (A : Nat → Nat) (n m : Nat) (sp tu th : Int) : List Value := [.ref (A 0), .ref (A 1), .ref (A 2), .ref (A 3), .ref (A 4), .ref (A 5), .ref (A 6), .ref (A 7), .ref (A 8), .ref (A 9), .ref (A 10), .int (iZ (n : Int)), .ref (A 12), .ref (A 13), .int (iZ (m : Int)), .long (lZ sp), .int (iZ tu), .ref (A 17), .ref (A 18), .ref (A 19), .ref (A 20), .int (iZ th)]
/-- the reference's object at b, its arrays at the addresses A, their contents σ -/
def Mo (G : Gt) (h : hF) (b : Nat) (A : Nat → Nat) (σ : St) (n m : Nat) (sp tu th : Int) : Prop := h b = some (.inr (8, MF A n m sp tu th)) ∧ (∀ k : Nat, isB k = true → h (A k) = some (mcell G k (σ k))) ∧ (∀ i j : Nat, isA i = true → isA j = true → A i = A j → i = j) ∧ ∀ k : Nat, isA k = true → ∃ f, h (A k) = some (mcell G k f)
def sup (σ : St) (k : Nat) (f : Nat → Int) : St := fun j => if j = k then f else σ j
theorem sup_eq (σ : St) (k : Nat) (f : Nat → Int) : sup σ k f k = f := by simp [sup]
theorem sup_ne {σ : St} {k : Nat} {f : Nat → Int} {j : Nat} (h : j ≠ k) : sup σ k f j = σ j := by simp [sup, h]
theorem mcell_inl (G : Gt) (k : Nat) (f : Nat → Int) (x : Nat × List Value) : mcell G k f ≠ .inr x := by
  unfold mcell
  split <;> (intro q; cases q)
theorem isA_of {k : Nat} (h : isB k = true) : isA k = true := by
  unfold isB at h
  have h1 : k ≤ 13 ∧ k ≠ 11 := by
    rw [Bool.and_eq_true] at h
    exact ⟨Nat.le_of_ble_eq_true h.1, by have := h.2; intro e; subst e; exact absurd this (by decide)⟩
  have h2 : ∀ j : Nat, j < 14 → j ≠ 11 → isA j = true := by decide
  exact h2 k (by omega) h1.2
/-- nothing else was changed -/
def Fm (h h' : hF) (b : Nat) (A : Nat → Nat) : Prop := ∀ a : Nat, a ≠ b → (∀ k : Nat, isA k = true → a ≠ A k) → h' a = h a
theorem Fm.rf (h : hF) (b : Nat) (A : Nat → Nat) : Fm h h b A := fun _ _ _ => rfl
theorem Fm.tr {h h1 h2 : hF} {b : Nat} {A : Nat → Nat} (x : Fm h h1 b A) (y : Fm h1 h2 b A) : Fm h h2 b A := fun a q1 q2 => (y a q1 q2).trans (x a q1 q2)
theorem Fm.b {h h1 : hF} {b : Nat} {A : Nat → Nat} (x : Fm h h1 b A) (e : va_E) : Fm h (hup h1 b e) b A := fun a q1 q2 => by rw [hup_ne q1]; exact x a q1 q2
theorem Fm.a {h h1 : hF} {b : Nat} {A : Nat → Nat} (x : Fm h h1 b A) {k : Nat} (hk : isA k = true) (e : va_E) : Fm h (hup h1 (A k) e) b A := fun a q1 q2 => by rw [hup_ne (q2 k hk)]; exact x a q1 q2
section MO
variable {G : Gt} {h : hF} {b : Nat} {A : Nat → Nat} {σ : St} {n m : Nat} {sp tu th : Int}
theorem Mo.fld (hM : Mo G h b A σ n m sp tu th) {n' m' : Nat} {sp' tu' th' : Int} : Mo G (hup h b (.inr (8, MF A n' m' sp' tu' th'))) b A σ n' m' sp' tu' th' := ⟨hup_eq _ _ _, fun k hk => hup_k (hM.2.1 k hk) hM.1 (mcell_inl _ _ _ _), hM.2.2.1, fun k hk => by
  obtain ⟨f, hf⟩ := hM.2.2.2 k hk
  exact ⟨f, hup_k hf hM.1 (mcell_inl _ _ _ _)⟩⟩
theorem Mo.any (hM : Mo G h b A σ n m sp tu th) {k : Nat} (hk : isA k = true) (f : Nat → Int) : ∀ j : Nat, isA j = true → ∃ f2, hup h (A k) (mcell G k f) (A j) = some (mcell G j f2) := by
  intro j hj
  by_cases e : j = k
  · subst e
    exact ⟨f, hup_eq _ _ _⟩
  · rw [hup_ne (fun q => e (hM.2.2.1 j k hj hk q))]
    exact hM.2.2.2 j hj
theorem Mo.arr (hM : Mo G h b A σ n m sp tu th) {k : Nat} (hk : isB k = true) (f : Nat → Int) : Mo G (hup h (A k) (mcell G k f)) b A (sup σ k f) n m sp tu th := by
  refine ⟨?_, fun j hj => ?_, hM.2.2.1, hM.any (isA_of hk) f⟩
  · exact hup_k hM.1 (hM.2.1 k hk) (fun q => mcell_inl _ _ _ _ q.symm)
  · by_cases e : j = k
    · subst e
      rw [sup_eq, hup_eq]
    · rw [sup_ne e, hup_ne (fun q => e (hM.2.2.1 j k (isA_of hj) (isA_of hk) q))]
      exact hM.2.1 j hj
/-- an array of the runs: the state is the same -/
theorem Mo.arx (hM : Mo G h b A σ n m sp tu th) {k : Nat} (hk : isA k = true) (hk2 : isB k = false) (f : Nat → Int) : Mo G (hup h (A k) (mcell G k f)) b A σ n m sp tu th := by
  refine ⟨?_, fun j hj => ?_, hM.2.2.1, hM.any hk f⟩
  · obtain ⟨f2, hf2⟩ := hM.2.2.2 k hk
    exact hup_k hM.1 hf2 (fun q => mcell_inl _ _ _ _ q.symm)
  · rw [hup_ne (fun q => by have e := hM.2.2.1 j k (isA_of hj) hk q; subst e; rw [hj] at hk2; cases hk2)]
    exact hM.2.1 j hj
theorem Mo.a0 (hM : Mo G h b A σ n m sp tu th) : h (A 0) = some (gJ G 17 (σ 0)) := hM.2.1 0 rfl
theorem Mo.a1 (hM : Mo G h b A σ n m sp tu th) : h (A 1) = some (gJ G 17 (σ 1)) := hM.2.1 1 rfl
theorem Mo.a2 (hM : Mo G h b A σ n m sp tu th) : h (A 2) = some (gI G 17 (σ 2)) := hM.2.1 2 rfl
theorem Mo.a3 (hM : Mo G h b A σ n m sp tu th) : h (A 3) = some (gJ G 17 (σ 3)) := hM.2.1 3 rfl
theorem Mo.a4 (hM : Mo G h b A σ n m sp tu th) : h (A 4) = some (gI G 17 (σ 4)) := hM.2.1 4 rfl
theorem Mo.a5 (hM : Mo G h b A σ n m sp tu th) : h (A 5) = some (gJ G 17 (σ 5)) := hM.2.1 5 rfl
theorem Mo.a6 (hM : Mo G h b A σ n m sp tu th) : h (A 6) = some (gJ G 17 (σ 6)) := hM.2.1 6 rfl
theorem Mo.a7 (hM : Mo G h b A σ n m sp tu th) : h (A 7) = some (gJ G 17 (σ 7)) := hM.2.1 7 rfl
theorem Mo.a8 (hM : Mo G h b A σ n m sp tu th) : h (A 8) = some (gI G 17 (σ 8)) := hM.2.1 8 rfl
theorem Mo.a9 (hM : Mo G h b A σ n m sp tu th) : h (A 9) = some (gI G 170 (σ 9)) := hM.2.1 9 rfl
theorem Mo.a10 (hM : Mo G h b A σ n m sp tu th) : h (A 10) = some (gJ G 170 (σ 10)) := hM.2.1 10 rfl
theorem Mo.a12 (hM : Mo G h b A σ n m sp tu th) : h (A 12) = some (gJ G 9 (σ 12)) := hM.2.1 12 rfl
theorem Mo.a13 (hM : Mo G h b A σ n m sp tu th) : h (A 13) = some (gJ G 9 (σ 13)) := hM.2.1 13 rfl
end MO
set_option maxRecDepth 100000 in
set_option maxHeartbeats 4000000 in
theorem c6_isTask {l : Launch} {G : Gt} {B : Nat} {h : hF} {b : Nat} {A9 : Nat → Nat} {σ : St} {n m : Nat} {sp tu th : Int} (hM : Mo G h b A9 σ n m sp tu th) (hn16 : n ≤ 16) {z : Int} (hz : -2147483648 ≤ z ∧ z < 2147483648) : Ct l G B yX6_isTask cX6_isTask 2 (some .boolean) 0 0 0 [.ref b, .int (iZ z)] h (fun v h' => v = .int (iZ (if 1 ≤ z ∧ z ≤ n then 1 else 0)) ∧ h = h') := by
  refine Ct.of (by decide) (Nat.le_of_ble_eq_true rfl) ?_
  intro p e s m9 below meth c A hX hR hin
  have h_M := hM.1
  refine j_iload_n hX dX6_isTask_0 rfl ?_
  refine j_iconst hX dX6_isTask_1 ?_
  refine j_icmp_lt hX 17 dX6_isTask_2 (by decide) (by omega) (by omega) (fun c2 => ?_) (fun c2 => ?_)
  · refine j_iconst hX dX6_isTask_17 ?_
    exact j_zret hX hR dX6_isTask_18 (by omega) ⟨by first | rw [if_pos (by omega)] | rw [if_neg (by omega)], rfl⟩
  · refine j_iload_n hX dX6_isTask_5 rfl ?_
    refine j_aload_n hX dX6_isTask_6 rfl ?_
    refine j_get hX fl_X6_67_8 dX6_isTask_7 h_M (by rfl) ?_
    refine j_icmp_gt hX 17 dX6_isTask_10 (by decide) (by omega) (by omega) (fun c10 => ?_) (fun c10 => ?_)
    · refine j_iconst hX dX6_isTask_17 ?_
      exact j_zret hX hR dX6_isTask_18 (by omega) ⟨by first | rw [if_pos (by omega)] | rw [if_neg (by omega)], rfl⟩
    · refine j_iconst hX dX6_isTask_13 ?_
      refine j_goto hX 18 dX6_isTask_14 (by decide) ?_
      exact j_zret hX hR dX6_isTask_18 (by omega) ⟨by first | rw [if_pos (by omega)] | rw [if_neg (by omega)], rfl⟩
set_option maxRecDepth 100000 in
set_option maxHeartbeats 4000000 in
theorem c6_within {l : Launch} {G : Gt} {B : Nat} {h : hF} {x lo hi : Int} (hx : -9223372036854775808 ≤ x ∧ x < 9223372036854775808) (hlo : -9223372036854775808 ≤ lo ∧ lo < 9223372036854775808) (hhi : -9223372036854775808 ≤ hi ∧ hi < 9223372036854775808) : Ct l G B yX6_within cX6_within 6 (some .boolean) 0 0 0 [.long (lZ x), .long (lZ lo), .long (lZ hi)] h (fun v h' => v = .int (iZ (if lo ≤ x ∧ x ≤ hi then 1 else 0)) ∧ h = h') := by
  refine Ct.of (by decide) (Nat.le_of_ble_eq_true rfl) ?_
  intro p e s m9 below meth c A hX hR hin
  refine j_lload_n hX dX6_within_0 rfl ?_
  refine j_lload_n hX dX6_within_1 rfl ?_
  refine j_lcmp_lt hX 17 dX6_within_2 dX6_within_3 (by decide) (by omega) (by omega) (fun c2 => ?_) (fun c2 => ?_)
  · refine j_iconst hX dX6_within_17 ?_
    exact j_zret hX hR dX6_within_18 (by omega) ⟨by first | rw [if_pos (by omega)] | rw [if_neg (by omega)], rfl⟩
  · refine j_lload_n hX dX6_within_6 rfl ?_
    refine j_lload hX dX6_within_7 rfl ?_
    refine j_lcmp_gt hX 17 dX6_within_9 dX6_within_10 (by decide) (by omega) (by omega) (fun c9 => ?_) (fun c9 => ?_)
    · refine j_iconst hX dX6_within_17 ?_
      exact j_zret hX hR dX6_within_18 (by omega) ⟨by first | rw [if_pos (by omega)] | rw [if_neg (by omega)], rfl⟩
    · refine j_iconst hX dX6_within_13 ?_
      refine j_goto hX 18 dX6_within_14 (by decide) ?_
      exact j_zret hX hR dX6_within_18 (by omega) ⟨by first | rw [if_pos (by omega)] | rw [if_neg (by omega)], rfl⟩
set_option maxRecDepth 100000 in
set_option maxHeartbeats 4000000 in
theorem c6_upwards {l : Launch} {G : Gt} {B : Nat} {h : hF} {d b : Int} (hd : 0 ≤ d ∧ d ≤ 1000000000000000) (hb : 1 ≤ b ∧ b ≤ 1000000000000) : Ct l G B yX6_upwards cX6_upwards 4 (some .long) 0 0 0 [.long (lZ d), .long (lZ b)] h (fun v h' => v = .long (lZ (upw d b)) ∧ h = h') := by
  refine Ct.of (by decide) (Nat.le_of_ble_eq_true rfl) ?_
  intro p e s m9 below meth c A hX hR hin
  have e1 := upw_rem (d := d) hb.1
  have e2 := divb hd (show 0 < b by omega)
  have e3 := Int.emod_nonneg d (show b ≠ 0 by omega)
  have e4 := Int.emod_lt_of_pos d (show 0 < b by omega)
  refine j_lload_n hX dX6_upwards_0 rfl ?_
  refine j_lload_n hX dX6_upwards_1 rfl ?_
  refine j_lrem hX dX6_upwards_2 (by omega) (by omega) ?_
  refine j_lconst0 hX dX6_upwards_3 ?_
  refine j_lcmp_ne hX 14 dX6_upwards_4 dX6_upwards_5 (by decide) (by omega) (by omega) (fun c4 => ?_) (fun c4 => ?_)
  · refine j_lload_n hX dX6_upwards_14 rfl ?_
    refine j_lload_n hX dX6_upwards_15 rfl ?_
    refine j_ldiv hX dX6_upwards_16 (by omega) (by omega) ?_
    refine j_lconst1 hX dX6_upwards_17 ?_
    refine j_ladd hX dX6_upwards_18 ?_
    exact j_lret hX hR dX6_upwards_19 ⟨by rw [← e1]; first | rw [if_pos (by omega)] | rw [if_neg (by omega)], rfl⟩
  · refine j_lload_n hX dX6_upwards_8 rfl ?_
    refine j_lload_n hX dX6_upwards_9 rfl ?_
    refine j_ldiv hX dX6_upwards_10 (by omega) (by omega) ?_
    refine j_goto hX 19 dX6_upwards_11 (by decide) ?_
    exact j_lret hX hR dX6_upwards_19 ⟨by rw [← e1]; first | rw [if_pos (by omega)] | rw [if_neg (by omega)], rfl⟩
set_option maxRecDepth 100000 in
set_option maxHeartbeats 4000000 in
theorem c6_cost {l : Launch} {G : Gt} {B : Nat} {h : hF} {b : Nat} {A9 : Nat → Nat} {σ : St} {n m : Nat} {sp tu th : Int} (hM : Mo G h b A9 σ n m sp tu th) {t : Nat} (ht : 1 ≤ t ∧ t ≤ n) (hO : OK n m σ) : Ct l G B yX6_cost cX6_cost 2 (some .long) 0 0 0 [.ref b, .int (iZ (t : Int))] h (fun v h' => v = .long (lZ (cosT σ t)) ∧ h = h') := by
  refine Ct.of (by decide) (Nat.le_of_ble_eq_true rfl) ?_
  intro p e s m9 below meth c A hX hR hin
  have h_M := hM.1
  have h_a0 := hM.a0
  have h_a6 := hM.a6
  have hn16 := hO.1
  have hm8 := hO.2.1
  refine j_aload_n hX dX6_cost_0 rfl ?_
  refine j_get hX fl_X6_7_8 dX6_cost_1 h_M (by rfl) ?_
  refine j_iload_n hX dX6_cost_4 rfl ?_
  refine j_laldN hX _ rfl dX6_cost_5 h_a0 (by omega) (by decide) ?_
  refine j_aload_n hX dX6_cost_6 rfl ?_
  refine j_get hX fl_X6_29_8 dX6_cost_7 h_M (by rfl) ?_
  refine j_iload_n hX dX6_cost_10 rfl ?_
  refine j_laldN hX _ rfl dX6_cost_11 h_a6 (by omega) (by decide) ?_
  refine j_ladd hX dX6_cost_12 ?_
  exact j_lret hX hR dX6_cost_13 ⟨rfl, rfl⟩
set_option maxRecDepth 100000 in
set_option maxHeartbeats 4000000 in
theorem c6_comes {l : Launch} {G : Gt} {B : Nat} {h : hF} {b : Nat} {A9 : Nat → Nat} {σ : St} {n m : Nat} {sp tu th : Int} (hM : Mo G h b A9 σ n m sp tu th) {t : Nat} (ht : 1 ≤ t ∧ t ≤ n) (hO : OK n m σ) {w : Int} (hw : 0 ≤ w ∧ w ≤ 1000000) : Ct l G B yX6_comes cX6_comes 8 (some .long) 1 0 0 [.ref b, .int (iZ (t : Int)), .long (lZ w)] h (fun v h' => v = .long (lZ (actT σ t w)) ∧ h = h') := by
  refine Ct.of (by decide) (Nat.le_of_ble_eq_true rfl) ?_
  intro p e s m9 below meth c A hX hR hin
  have h_M := hM.1
  have h_a1 := hM.a1
  have h_a3 := hM.a3
  have h_a4 := hM.a4
  have h_a5 := hM.a5
  have hn16 := hO.1
  have hm8 := hO.2.1
  obtain ⟨o0, o1, o2, o3, o4, o5, o6, o7, o8, o9⟩ := hO.2.2.1 t ht.1 ht.2
  have u1 := upw_b hw o5.1
  have u2 := upw_b (d := w + σ 3 t) (D := 1020000) (b := σ 1 t) (by omega) o1.1
  have u3 := mulb (a := σ 4 t) (A := 20) (by omega) u2
  refine j_lload_n hX dX6_comes_0 rfl ?_
  refine j_aload_n hX dX6_comes_1 rfl ?_
  refine j_get hX fl_X6_26_8 dX6_comes_2 h_M (by rfl) ?_
  refine j_iload_n hX dX6_comes_5 rfl ?_
  refine j_laldN hX _ rfl dX6_comes_6 h_a5 (by omega) (by decide) ?_
  refine j_callS hX cs_X6_93 (c6_upwards (by omega) (by omega)) dX6_comes_7 rfl (by exact ⟨Nat.le_of_ble_eq_true rfl, Nat.le_of_ble_eq_true rfl⟩) (by exact ⟨Nat.le_of_ble_eq_true rfl, Nat.le_of_ble_eq_true rfl⟩) (by exact Nat.le_of_ble_eq_true rfl) (fun v7 h7 hp7 => ?_) rfl
  obtain ⟨rfl, rfl⟩ := hp7
  refine j_lstore hX dX6_comes_10 (by decide) ?_
  refine j_aload_n hX dX6_comes_12 rfl ?_
  refine j_get hX fl_X6_23_8 dX6_comes_13 h_M (by rfl) ?_
  refine j_iload_n hX dX6_comes_16 rfl ?_
  refine j_ialdN hX _ rfl dX6_comes_17 h_a4 (by omega) (by decide) ?_
  refine j_i2l hX dX6_comes_18 (by omega) ?_
  refine j_lload_n hX dX6_comes_19 rfl ?_
  refine j_aload_n hX dX6_comes_20 rfl ?_
  refine j_get hX fl_X6_20_8 dX6_comes_21 h_M (by rfl) ?_
  refine j_iload_n hX dX6_comes_24 rfl ?_
  refine j_laldN hX _ rfl dX6_comes_25 h_a3 (by omega) (by decide) ?_
  refine j_ladd hX dX6_comes_26 ?_
  refine j_aload_n hX dX6_comes_27 rfl ?_
  refine j_get hX fl_X6_13_8 dX6_comes_28 h_M (by rfl) ?_
  refine j_iload_n hX dX6_comes_31 rfl ?_
  refine j_laldN hX _ rfl dX6_comes_32 h_a1 (by omega) (by decide) ?_
  refine j_callS hX cs_X6_93 (c6_upwards (by omega) (by omega)) dX6_comes_33 rfl (by exact ⟨Nat.le_of_ble_eq_true rfl, Nat.le_of_ble_eq_true rfl⟩) (by exact ⟨Nat.le_of_ble_eq_true rfl, Nat.le_of_ble_eq_true rfl⟩) (by exact Nat.le_of_ble_eq_true rfl) (fun v33 h33 hp33 => ?_) rfl
  obtain ⟨rfl, rfl⟩ := hp33
  refine j_lmul hX dX6_comes_36 ?_
  refine j_lstore hX dX6_comes_37 (by decide) ?_
  refine j_lload hX dX6_comes_39 rfl ?_
  refine j_lload hX dX6_comes_41 rfl ?_
  refine j_lcmp_ge hX 52 dX6_comes_43 dX6_comes_44 (by decide) (by omega) (by omega) (fun c43 => ?_) (fun c43 => ?_)
  · refine j_lload hX dX6_comes_52 rfl ?_
    exact j_lret hX hR dX6_comes_54 ⟨by unfold actT acts; split <;> first | rfl | (congr 2; omega), rfl⟩
  · refine j_lload hX dX6_comes_47 rfl ?_
    refine j_goto hX 54 dX6_comes_49 (by decide) ?_
    exact j_lret hX hR dX6_comes_54 ⟨by unfold actT acts; split <;> first | rfl | (congr 2; omega), rfl⟩
set_option maxRecDepth 100000 in
set_option maxHeartbeats 4000000 in
theorem c6_later {l : Launch} {G : Gt} {B : Nat} {h : hF} {b : Nat} {A9 : Nat → Nat} {σ : St} {n m : Nat} {sp tu th : Int} (hM : Mo G h b A9 σ n m sp tu th) {t : Nat} (ht : 1 ≤ t ∧ t ≤ n) (hO : OK n m σ) {q : Int} (hq : 0 ≤ q ∧ q ≤ 500) : Ct l G B yX6_later cX6_later 7 (some .long) 0 0 0 [.ref b, .int (iZ (t : Int)), .int (iZ q)] h (fun v h' => v = .long (lZ (latT σ t q)) ∧ h = h') := by
  refine Ct.of (by decide) (Nat.le_of_ble_eq_true rfl) ?_
  intro p e s m9 below meth c A hX hR hin
  have h_M := hM.1
  have h_a1 := hM.a1
  have h_a3 := hM.a3
  have h_a4 := hM.a4
  have h_a5 := hM.a5
  have hn16 := hO.1
  have hm8 := hO.2.1
  obtain ⟨o0, o1, o2, o3, o4, o5, o6, o7, o8, o9⟩ := hO.2.2.1 t ht.1 ht.2
  have b1 := divb hq (show 0 < σ 4 t by omega)
  have b2 := mulb b1 (show 0 ≤ σ 1 t ∧ σ 1 t ≤ 20000 by omega)
  have b3 := mulb hq (show 0 ≤ σ 5 t ∧ σ 5 t ≤ 20000 by omega)
  refine j_iload_n hX dX6_later_0 rfl ?_
  refine j_i2l hX dX6_later_1 (by omega) ?_
  refine j_aload_n hX dX6_later_2 rfl ?_
  refine j_get hX fl_X6_26_8 dX6_later_3 h_M (by rfl) ?_
  refine j_iload_n hX dX6_later_6 rfl ?_
  refine j_laldN hX _ rfl dX6_later_7 h_a5 (by omega) (by decide) ?_
  refine j_lmul hX dX6_later_8 ?_
  refine j_lstore_n hX dX6_later_9 (by decide) ?_
  refine j_iload_n hX dX6_later_10 rfl ?_
  refine j_aload_n hX dX6_later_11 rfl ?_
  refine j_get hX fl_X6_23_8 dX6_later_12 h_M (by rfl) ?_
  refine j_iload_n hX dX6_later_15 rfl ?_
  refine j_ialdN hX _ rfl dX6_later_16 h_a4 (by omega) (by decide) ?_
  refine j_idiv hX dX6_later_17 (by omega) (by omega) ?_
  refine j_i2l hX dX6_later_18 (by omega) ?_
  refine j_aload_n hX dX6_later_19 rfl ?_
  refine j_get hX fl_X6_13_8 dX6_later_20 h_M (by rfl) ?_
  refine j_iload_n hX dX6_later_23 rfl ?_
  refine j_laldN hX _ rfl dX6_later_24 h_a1 (by omega) (by decide) ?_
  refine j_lmul hX dX6_later_25 ?_
  refine j_aload_n hX dX6_later_26 rfl ?_
  refine j_get hX fl_X6_20_8 dX6_later_27 h_M (by rfl) ?_
  refine j_iload_n hX dX6_later_30 rfl ?_
  refine j_laldN hX _ rfl dX6_later_31 h_a3 (by omega) (by decide) ?_
  refine j_lsub hX dX6_later_32 ?_
  refine j_lstore hX dX6_later_33 (by decide) ?_
  refine j_lload hX dX6_later_35 rfl ?_
  refine j_lload_n hX dX6_later_37 rfl ?_
  refine j_lcmp_le hX 47 dX6_later_38 dX6_later_39 (by decide) (by omega) (by omega) (fun c38 => ?_) (fun c38 => ?_)
  · refine j_lload_n hX dX6_later_47 rfl ?_
    refine j_lstore_n hX dX6_later_48 (by decide) ?_
    refine j_lload_n hX dX6_later_49 rfl ?_
    refine j_lconst0 hX dX6_later_50 ?_
    refine j_lcmp_le hX 59 dX6_later_51 dX6_later_52 (by decide) (by omega) (by omega) (fun c51 => ?_) (fun c51 => ?_)
    · refine j_lconst0 hX dX6_later_59 ?_
      exact j_lret hX hR dX6_later_60 ⟨by unfold latT late; congr 2; (repeat' split) <;> omega, rfl⟩
    · refine j_lload_n hX dX6_later_55 rfl ?_
      refine j_goto hX 60 dX6_later_56 (by decide) ?_
      exact j_lret hX hR dX6_later_60 ⟨by unfold latT late; congr 2; (repeat' split) <;> omega, rfl⟩
  · refine j_lload hX dX6_later_42 rfl ?_
    refine j_goto hX 48 dX6_later_44 (by decide) ?_
    refine j_lstore_n hX dX6_later_48 (by decide) ?_
    refine j_lload_n hX dX6_later_49 rfl ?_
    refine j_lconst0 hX dX6_later_50 ?_
    refine j_lcmp_le hX 59 dX6_later_51 dX6_later_52 (by decide) (by omega) (by omega) (fun c51 => ?_) (fun c51 => ?_)
    · refine j_lconst0 hX dX6_later_59 ?_
      exact j_lret hX hR dX6_later_60 ⟨by unfold latT late; congr 2; (repeat' split) <;> omega, rfl⟩
    · refine j_lload_n hX dX6_later_55 rfl ?_
      refine j_goto hX 60 dX6_later_56 (by decide) ?_
      exact j_lret hX hR dX6_later_60 ⟨by unfold latT late; congr 2; (repeat' split) <;> omega, rfl⟩
