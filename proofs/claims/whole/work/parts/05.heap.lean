/-! THE ROWS THAT TOUCH THE HEAP -/
def zup (f : Nat → Int) (k : Nat) (x : Int) : Nat → Int := fun j => if j = k then x else f j
theorem zup_eq (f : Nat → Int) (k : Nat) (x : Int) : zup f k x k = x := by simp [zup]
theorem zup_ne {f : Nat → Int} {k : Nat} {x : Int} {j : Nat} (h : j ≠ k) : zup f k x j = f j := by simp [zup, h]
/-- a field is read at the constant pool's entry i of own, of an object of the kind ci, at its place k -/
def FL (own : String) (i ci k : Nat) : Prop := ∃ (C : String) (T : u_T) (N : Nat) (ref : String), (∀ w ∈ u_ws C T N, w ∈ lw_g) ∧ vwCl[ci]? = some (C, T, N) ∧ k < N ∧ Cond.fieldLink own i ref (T k).2.1 (T k).2.2.1 ∈ lw_g ∧ (ref = (T k).1 ∨ Cond.sameField ref (T k).1 (T k).2.1 (T k).2.2.1 ∈ lw_g)
/-- .. is written: it isn't final, its type is ty -/
def FP (own : String) (i ci k : Nat) (ty : FieldType) : Prop := ∃ (C : String) (T : u_T) (N : Nat) (ref : String) (ty0 : Nat → FieldType), (∀ w ∈ u_ws C T N, w ∈ lw_g) ∧ vwCl[ci]? = some (C, T, N) ∧ k < N ∧ Cond.fieldLink own i ref (T k).2.1 (T k).2.2.1 ∈ lw_g ∧ (ref = (T k).1 ∨ Cond.sameField ref (T k).1 (T k).2.1 (T k).2.2.1 ∈ lw_g) ∧ (∀ k, k < N → parseFieldDescriptor (T k).2.2.1 = some (ty0 k)) ∧ (∀ a, a < N → ∀ b, b < N → a ≠ b → (T a).2.1 ≠ (T b).2.1) ∧ (T k).2.2.2 = false ∧ ty0 k = ty
/-- .. is written by its constructor: it is final -/
def FF (own : String) (i ci k : Nat) (ty : FieldType) : Prop := ∃ (C : String) (T : u_T) (N : Nat) (ref : String) (ty0 : Nat → FieldType), (∀ w ∈ u_ws C T N, w ∈ lw_g) ∧ vwCl[ci]? = some (C, T, N) ∧ k < N ∧ Cond.fieldLink own i ref (T k).2.1 (T k).2.2.1 ∈ lw_g ∧ (ref = (T k).1 ∨ Cond.sameField ref (T k).1 (T k).2.1 (T k).2.2.1 ∈ lw_g) ∧ (∀ k, k < N → parseFieldDescriptor (T k).2.2.1 = some (ty0 k)) ∧ (∀ a, a < N → ∀ b, b < N → a ≠ b → (T a).2.1 ≠ (T b).2.1) ∧ (T k).2.2.2 = true ∧ (T k).1 = own ∧ ty0 k = ty
theorem FL_same {s : State} {args : Array Value} {ref : String} {d n t : String} (hts : ∀ w ∈ lw_g, w.before args s = true) (h : ref = d ∨ Cond.sameField ref d n t ∈ lw_g) : ∀ x, s.fieldFound? d n t = some x → s.fieldFound? ref n t = some x := by
  intro x hx
  rcases h with rfl | h
  · exact hx
  · exact u_same (hts _ h) x hx
section JH
variable {p : Program} {l : Launch} {e : Env} {R : Room} {s : State} {m : MethodId} {args : Array Value} {below : List Frame} {meth : Method} {c : Code} {Q : State → Prop} {nL : Nat} {G : Gt} {A : Nat → Prop} {cells slots pc : Nat} {L : List (Nat × Value)} {st : List Value} {h : hF} {cc : ByteArray} {own : String} {B : Nat}

theorem j_get (hX : CX p s m args c cc nL own G B A) {i ci k a : Nat} (hF : FL own i ci k) (hdg : decode cc pc = .ok (.getfield i, 3)) {fs : List Value} {v : Value} (ha : h a = some (.inr (ci, fs))) (hv : fs[k]? = some v) (kk : J p l e R s m args below meth c Q nL G A cells slots (pc + 3) L (v :: st) h) : J p l e R s m args below meth c Q nL G A cells slots pc L (.ref a :: st) h := by
  obtain ⟨C, T, N, ref, h1, h2, h3, h4, h5⟩ := hF
  intro ls H locs hl hP hA hS
  exact va_get (D := G.1) (tys := gty G) hX.1 hX.2.1 hX.2.2.2.2.1 h1 hX.2.2.2.1 hX.2.2.2.2.2.1.1 (hP.one ha) 0 rfl h2 k h3 (hX.2.2.2.2.1 _ h4) (FL_same hX.2.2.2.2.1 h5) hv hdg (kk ls H locs hl hP hA hS)
theorem j_put (hX : CX p s m args c cc nL own G B A) {i ci k a : Nat} {ty : FieldType} (hF : FP own i ci k ty) (hdg : decode cc pc = .ok (.putfield i, 3)) {fs : List Value} {v : Value} (ha : h a = some (.inr (ci, fs))) (hn : narrow ty v = v) (hfit : fits ty v = true) (hk : k < fs.length) (kk : J p l e R s m args below meth c Q nL G A cells slots (pc + 3) L st (hup h a (.inr (ci, fs.set k v)))) : J p l e R s m args below meth c Q nL G A cells slots pc L (v :: .ref a :: st) h := by
  obtain ⟨C, T, N, ref, ty0, h1, h2, h3, h4, h5, h6, h7, h8, h9⟩ := hF
  intro ls H locs hl hP hA hS
  have hts := hX.2.2.2.2.1
  have hap := va_apart (args := args) (own := own) hts h1 ty0 h6 h7 hX.2.2.2.2.2.1.1 h2
  obtain ⟨r, g1, cell, q1, q2, q3, q4⟩ := hP _ _ ha
  have hr : r = (C, T, N) := Option.some.inj (g1.symm.trans h2)
  subst hr
  obtain ⟨hSl, hfc, kC, hkC, hkind⟩ := hX.2.2.2.2.2.1.1.1 ci _ h2
  obtain ⟨cf, kf, fi, f, hi, hsl⟩ := hSl k h3
  have hlay := hts _ (h1 _ (u_in_lay h3))
  unfold u_lay at hlay
  rw [if_neg (by rw [h8]; decide)] at hlay
  have hst := (u_facts hfc hkC (u_lays hts h1 h3) hi).1
  have hfs := u_store hfc hkC hkind hlay hi (by rw [h6 k h3, h9]) hn hfit
  refine W.putK hX.1 hX.2.1 (f := f) ⟨hX.2.2.2.1, hts _ h4, ⟨_, _, _, FL_same hts h5 _ hi⟩, hst⟩ (by rw [q2]; exact hfs) q1 q3 (by rw [hsl]; exact k2_hasslot (q4 k h3)) rfl rfl hdg fun H' e1 e2 e3 => ?_
  rw [hsl] at e1 ⊢
  refine kk ls H' _ hl (hP.up ⟨_, h2, t_OB.to (V := updV (vp_V fs) k v) ⟨_, e1, q2, q3, t_set q4 hap h3 v⟩ (fun j _ => vp_updV_set hk v j)⟩ e3) (fun b x hb => ?_) (hS.put e2 e3 (hA _ _ ha))
  by_cases hba : b = a
  · rw [hba]; exact hA _ _ ha
  · rw [hup_ne hba] at hb; exact hA _ _ hb
theorem j_putF (hX : CX p s m args c cc nL own G B A) {i ci k a : Nat} {ty : FieldType} (hF : FF own i ci k ty) (hin2 : meth.name = "<init>") (hdg : decode cc pc = .ok (.putfield i, 3)) {fs : List Value} {v : Value} (ha : h a = some (.inr (ci, fs))) (hn : narrow ty v = v) (hfit : fits ty v = true) (hk : k < fs.length) (kk : J p l e R s m args below meth c Q nL G A cells slots (pc + 3) L st (hup h a (.inr (ci, fs.set k v)))) : J p l e R s m args below meth c Q nL G A cells slots pc L (v :: .ref a :: st) h := by
  obtain ⟨C, T, N, ref, ty0, h1, h2, h3, h4, h5, h6, h7, h8, hdecl, h9⟩ := hF
  intro ls H locs hl hP hA hS
  have hts := hX.2.2.2.2.1
  have hap := va_apart (args := args) (own := own) hts h1 ty0 h6 h7 hX.2.2.2.2.2.1.1 h2
  obtain ⟨r, g1, cell, q1, q2, q3, q4⟩ := hP _ _ ha
  have hr : r = (C, T, N) := Option.some.inj (g1.symm.trans h2)
  subst hr
  obtain ⟨hSl, hfc, kC, hkC, hkind⟩ := hX.2.2.2.2.2.1.1.1 ci _ h2
  obtain ⟨cf, kf, fi, f, hi, hsl⟩ := hSl k h3
  have hlay := hts _ (h1 _ (u_in_lay h3))
  unfold u_lay at hlay
  rw [if_pos h8] at hlay
  have hst := (u_facts hfc hkC (u_lays hts h1 h3) hi).1
  have hcf : m.cls = cf := by
    obtain ⟨_, _, c', _, _, _, -, -, hf', -, -, -, hown2, -⟩ := Cond.laysFinal_spec hlay
    have e1 : c' = cf := by have := hi.symm.trans hf'; simp at this; exact this.1.symm
    rw [hdecl] at hown2
    rw [← e1]; exact Option.some.inj (hX.2.2.2.1.symm.trans hown2)
  have hfs := u_fits hfc hkC hkind (Or.inr hlay) hi (by rw [h6 k h3, h9]) hn hfit
  refine W.putFinK hX.1 hX.2.1 hX.2.2.2.1 (hts _ h4) (FL_same hts h5 _ hi) hst hcf hin2 (by rw [q2]; exact hfs) q1 q3 (by rw [hsl]; exact k2_hasslot (q4 k h3)) rfl rfl hdg fun H' e1 e2 e3 => ?_
  rw [hsl] at e1 ⊢
  refine kk ls H' _ hl (hP.up ⟨_, h2, t_OB.to (V := updV (vp_V fs) k v) ⟨_, e1, q2, q3, t_set q4 hap h3 v⟩ (fun j _ => vp_updV_set hk v j)⟩ e3) (fun b x hb => ?_) (hS.put e2 e3 (hA _ _ ha))
  by_cases hba : b = a
  · rw [hba]; exact hA _ _ ha
  · rw [hup_ne hba] at hb; exact hA _ _ hb
theorem j_iald (hX : CX p s m args c cc nL own G B A) {a n : Nat} {f : Nat → Int} {i : Int} (hdg : decode cc pc = .ok (.iaload, 1)) (ha : h a = some (gI G n f)) (hi : 0 ≤ i ∧ i < (n : Int)) (hn : i < 2147483648) (kk : J p l e R s m args below meth c Q nL G A cells slots (pc + 1) L (.int (iZ (f i.toNat)) :: st) h) : J p l e R s m args below meth c Q nL G A cells slots pc L (.int (iZ i) :: .ref a :: st) h := by
  intro ls H locs hl hP hA hS
  refine va_iald (D := G.1) (tys := gty G) hX.1 hX.2.1 hX.2.2.2.2.2.1.1 (hP.one ha) 0 0 rfl rfl (iZ_in hi hn) hdg ?_
  rw [iZ_cl ⟨hi.1, hn⟩]
  exact kk ls H locs hl hP hA hS
theorem j_lald (hX : CX p s m args c cc nL own G B A) {a n : Nat} {f : Nat → Int} {i : Int} (hdg : decode cc pc = .ok (.laload, 1)) (ha : h a = some (gJ G n f)) (hi : 0 ≤ i ∧ i < (n : Int)) (hn : i < 2147483648) (kk : J p l e R s m args below meth c Q nL G A cells slots (pc + 1) L (.long (lZ (f i.toNat)) :: st) h) : J p l e R s m args below meth c Q nL G A cells slots pc L (.int (iZ i) :: .ref a :: st) h := by
  intro ls H locs hl hP hA hS
  refine va_lald (D := G.1) (tys := gty G) hX.1 hX.2.1 hX.2.2.2.2.2.1.1 (hP.one ha) 0 1 rfl rfl (iZ_in hi hn) hdg ?_
  rw [iZ_cl ⟨hi.1, hn⟩]
  exact kk ls H locs hl hP hA hS
theorem j_zald (hX : CX p s m args c cc nL own G B A) {a n : Nat} {f : Nat → Int} {i : Int} (hdg : decode cc pc = .ok (.baload, 1)) (ha : h a = some (gZ G n f)) (hi : 0 ≤ i ∧ i < (n : Int)) (hn : i < 2147483648) (kk : J p l e R s m args below meth c Q nL G A cells slots (pc + 1) L (.int (iZ (f i.toNat)) :: st) h) : J p l e R s m args below meth c Q nL G A cells slots pc L (.int (iZ i) :: .ref a :: st) h := by
  intro ls H locs hl hP hA hS
  refine va_zald (D := G.1) (tys := gty G) hX.1 hX.2.1 hX.2.2.2.2.2.1.1 (hP.one ha) 0 2 rfl rfl (iZ_in hi hn) hdg ?_
  rw [iZ_cl ⟨hi.1, hn⟩]
  exact kk ls H locs hl hP hA hS
theorem j_aald (hX : CX p s m args c cc nL own G B A) {a n : Nat} {f : Nat → Option Nat} {i : Int} (hdg : decode cc pc = .ok (.aaload, 1)) (ha : h a = some (gQ G n f)) (hi : 0 ≤ i ∧ i < (n : Int)) (hn : i < 2147483648) (kk : J p l e R s m args below meth c Q nL G A cells slots (pc + 1) L (va_rf (f i.toNat) :: st) h) : J p l e R s m args below meth c Q nL G A cells slots pc L (.int (iZ i) :: .ref a :: st) h := by
  intro ls H locs hl hP hA hS
  refine va_aldq (D := G.1) (tys := gty G) hX.1 hX.2.1 hX.2.2.2.2.2.1.1 (hP.one ha) 0 3 rfl rfl (iZ_in hi hn) hdg ?_
  rw [iZ_cl ⟨hi.1, hn⟩]
  exact kk ls H locs hl hP hA hS
theorem j_alenI (hX : CX p s m args c cc nL own G B A) {a n : Nat} {f : Nat → Int} (hdg : decode cc pc = .ok (.arraylength, 1)) (ha : h a = some (gI G n f)) (kk : J p l e R s m args below meth c Q nL G A cells slots (pc + 1) L (.int (iZ (n : Int)) :: st) h) : J p l e R s m args below meth c Q nL G A cells slots pc L (.ref a :: st) h := by
  intro ls H locs hl hP hA hS
  exact va_alen (D := G.1) (tys := gty G) hX.1 hX.2.1 hX.2.2.2.2.2.1.1 (hP.one ha) 0 0 rfl rfl (v := iZ (n : Int)) rfl hdg (kk ls H locs hl hP hA hS)
theorem j_alenJ (hX : CX p s m args c cc nL own G B A) {a n : Nat} {f : Nat → Int} (hdg : decode cc pc = .ok (.arraylength, 1)) (ha : h a = some (gJ G n f)) (kk : J p l e R s m args below meth c Q nL G A cells slots (pc + 1) L (.int (iZ (n : Int)) :: st) h) : J p l e R s m args below meth c Q nL G A cells slots pc L (.ref a :: st) h := by
  intro ls H locs hl hP hA hS
  exact va_alen (D := G.1) (tys := gty G) hX.1 hX.2.1 hX.2.2.2.2.2.1.1 (hP.one ha) 0 1 rfl rfl (v := iZ (n : Int)) rfl hdg (kk ls H locs hl hP hA hS)
theorem j_alenZ (hX : CX p s m args c cc nL own G B A) {a n : Nat} {f : Nat → Int} (hdg : decode cc pc = .ok (.arraylength, 1)) (ha : h a = some (gZ G n f)) (kk : J p l e R s m args below meth c Q nL G A cells slots (pc + 1) L (.int (iZ (n : Int)) :: st) h) : J p l e R s m args below meth c Q nL G A cells slots pc L (.ref a :: st) h := by
  intro ls H locs hl hP hA hS
  exact va_alen (D := G.1) (tys := gty G) hX.1 hX.2.1 hX.2.2.2.2.2.1.1 (hP.one ha) 0 2 rfl rfl (v := iZ (n : Int)) rfl hdg (kk ls H locs hl hP hA hS)
theorem j_alenQ (hX : CX p s m args c cc nL own G B A) {a n : Nat} {f : Nat → Option Nat} (hdg : decode cc pc = .ok (.arraylength, 1)) (ha : h a = some (gQ G n f)) (kk : J p l e R s m args below meth c Q nL G A cells slots (pc + 1) L (.int (iZ (n : Int)) :: st) h) : J p l e R s m args below meth c Q nL G A cells slots pc L (.ref a :: st) h := by
  intro ls H locs hl hP hA hS
  exact va_alen (D := G.1) (tys := gty G) hX.1 hX.2.1 hX.2.2.2.2.2.1.1 (hP.one ha) 0 3 rfl rfl (v := iZ (n : Int)) rfl hdg (kk ls H locs hl hP hA hS)
theorem j_iast (hX : CX p s m args c cc nL own G B A) {a n : Nat} {f : Nat → Int} {i x : Int} (hdg : decode cc pc = .ok (.iastore, 1)) (ha : h a = some (gI G n f)) (hi : 0 ≤ i ∧ i < (n : Int)) (hn : i < 2147483648) (kk : J p l e R s m args below meth c Q nL G A cells slots (pc + 1) L st (hup h a (gI G n (zup f i.toNat x)))) : J p l e R s m args below meth c Q nL G A cells slots pc L (.int (iZ x) :: .int (iZ i) :: .ref a :: st) h := by
  intro ls H locs hl hP hA hS
  refine W.iast hX.1 hX.2.1 (hP _ _ ha) ((hX.2.2.2.2.2.1.1.2 0 _ rfl).1 n (fun j => .int (iZ (f j)))) (fun q => by cases q) (by show ¬ (iZ i < 0 ∨ (arrV _ _ _).slots.size ≤ _); rw [arrV_size]; exact iZ_in hi hn) rfl rfl hdg fun H1 e1 e2 e3 => ?_
  refine kk ls H1 _ hl (hP.up ?_ e3) (fun b y hb => ?_) (hS.put e2 e3 (hA _ _ ha))
  · show H1[a]? = some (vp_cell _ _)
    rw [e1, vp_cell_i, vp_cell_i, arrV_store, iZ_cl ⟨hi.1, hn⟩]
    congr 2
    funext q
    by_cases hq : q = i.toNat
    · subst hq; simp [updV, zup]
    · simp [updV, zup, hq]
  · by_cases hba : b = a
    · rw [hba]; exact hA _ _ ha
    · rw [hup_ne hba] at hb; exact hA _ _ hb
theorem j_last (hX : CX p s m args c cc nL own G B A) {a n : Nat} {f : Nat → Int} {i x : Int} (hdg : decode cc pc = .ok (.lastore, 1)) (ha : h a = some (gJ G n f)) (hi : 0 ≤ i ∧ i < (n : Int)) (hn : i < 2147483648) (kk : J p l e R s m args below meth c Q nL G A cells slots (pc + 1) L st (hup h a (gJ G n (zup f i.toNat x)))) : J p l e R s m args below meth c Q nL G A cells slots pc L (.long (lZ x) :: .int (iZ i) :: .ref a :: st) h := by
  intro ls H locs hl hP hA hS
  refine W.last hX.1 hX.2.1 (hP _ _ ha) ((hX.2.2.2.2.2.1.1.2 1 _ rfl).1 n (fun j => .long (lZ (f j)))) (fun q => by cases q) (by show ¬ (iZ i < 0 ∨ (arrV _ _ _).slots.size ≤ _); rw [arrV_size]; exact iZ_in hi hn) rfl rfl hdg fun H1 e1 e2 e3 => ?_
  refine kk ls H1 _ hl (hP.up ?_ e3) (fun b y hb => ?_) (hS.put e2 e3 (hA _ _ ha))
  · show H1[a]? = some (vp_cell _ _)
    rw [e1, vp_cell_l, vp_cell_l, arrV_store, iZ_cl ⟨hi.1, hn⟩]
    congr 2
    funext q
    by_cases hq : q = i.toNat
    · subst hq; simp [updV, zup]
    · simp [updV, zup, hq]
  · by_cases hba : b = a
    · rw [hba]; exact hA _ _ ha
    · rw [hup_ne hba] at hb; exact hA _ _ hb
theorem j_zast (hX : CX p s m args c cc nL own G B A) {a n : Nat} {f : Nat → Int} {i x : Int} (hdg : decode cc pc = .ok (.bastore, 1)) (ha : h a = some (gZ G n f)) (hi : 0 ≤ i ∧ i < (n : Int)) (hn : i < 2147483648) (hx : x = 0 ∨ x = 1) (kk : J p l e R s m args below meth c Q nL G A cells slots (pc + 1) L st (hup h a (gZ G n (zup f i.toNat x)))) : J p l e R s m args below meth c Q nL G A cells slots pc L (.int (iZ x) :: .int (iZ i) :: .ref a :: st) h := by
  intro ls H locs hl hP hA hS
  have hnar : narrow .boolean (.int (iZ x)) = .int (iZ x) := by rcases hx with rfl | rfl <;> rfl
  refine W.zast hX.1 hX.2.1 (hP _ _ ha) ((hX.2.2.2.2.2.1.1.2 2 _ rfl).1 n (fun j => .int (iZ (f j)))) (fun q => by cases q) (by show ¬ (iZ i < 0 ∨ (arrV _ _ _).slots.size ≤ _); rw [arrV_size]; exact iZ_in hi hn) rfl rfl hdg fun H1 e1 e2 e3 => ?_
  refine kk ls H1 _ hl (hP.up ?_ e3) (fun b y hb => ?_) (hS.put e2 e3 (hA _ _ ha))
  · show H1[a]? = some (vp_cell _ _)
    rw [e1, vp_cell_i, vp_cell_i]
    rw [hnar, arrV_store, iZ_cl ⟨hi.1, hn⟩]
    congr 2
    funext q
    by_cases hq : q = i.toNat
    · subst hq; simp [updV, zup]
    · simp [updV, zup, hq]
  · by_cases hba : b = a
    · rw [hba]; exact hA _ _ ha
    · rw [hup_ne hba] at hb; exact hA _ _ hb
/-- a new object of the kind ci: its constant pool entry, its fields at the start -/
def NW (own : String) (i ci N : Nat) (fs : List Value) : Prop := ∃ (C : String) (T : u_T) (ty : Nat → FieldType), (∀ w ∈ u_ws C T N, w ∈ lw_g) ∧ (∀ k, k < N → parseFieldDescriptor (T k).2.2.1 = some (ty k)) ∧ Cond.classLink own i C ∈ lw_g ∧ Cond.instantiable C N ∈ lw_g ∧ Cond.initialized C ∈ lw_g ∧ vwCl[ci]? = some (C, T, N) ∧ ∀ j, j < N → defaultValue (ty j) = vp_V fs j
theorem j_new (hX : CX p s m args c cc nL own G B A) {i ci N : Nat} {fs : List Value} (hN : NW own i ci N fs) (hdg : decode cc pc = .ok (.new i, 3)) (hf : cells + 1 ≤ R.cells ∧ slots + N ≤ R.slots) (kk : ∀ q : Nat, h q = none → J p l e R s m args below meth c Q nL G A (cells + 1) (slots + N) (pc + 3) L (.ref q :: st) (hup h q (.inr (ci, fs)))) : J p l e R s m args below meth c Q nL G A cells slots pc L st h := by
  obtain ⟨C, T, ty, h1, h2, h3, h4, h5, h6, h7⟩ := hN
  intro ls H locs hl hP hA hS
  have hts := hX.2.2.2.2.1
  have hKn := hX.2.2.2.2.2.1.1.1 ci _ h6
  refine W.newcK hX.1 hX.2.1 hX.2.2.2.1 (hts _ h3) (hts _ h4) (hts _ h5) rfl hdg hf.1 hf.2 hKn.2.1 rfl fun H1 kC hkC e1 z1 o1 => ?_
  refine kk H.size (hP.fresh (Nat.le_refl _)) ls H1 locs hl (hP.new ⟨_, h6, (u_born ty hts h1 hKn hkC e1 h2).to h7⟩ o1) (fun b y hb => ?_) ⟨Nat.le_trans hS.1 (by omega), fun x q1 q2 => (o1 x (Nat.lt_of_lt_of_le q1 hS.1)).trans (hS.2.1 x q1 q2), hS.2.2⟩
  by_cases hba : b = H.size
  · rw [hba]; exact hX.2.2.2.2.2.2.2.1 _ hS.1
  · rw [hup_ne hba] at hb; exact hA _ _ hb
theorem j_newaI (hX : CX p s m args c cc nL own G B A) {N : Nat} (harr : Cond.arrayClass .int ∈ lw_g) (hdg : decode cc pc = .ok (.newarray .int, 2)) (hN : N ≤ 1000) (hf : cells + 1 ≤ R.cells ∧ slots + N ≤ R.slots) (kk : ∀ q : Nat, h q = none → J p l e R s m args below meth c Q nL G A (cells + 1) (slots + N) (pc + 2) L (.ref q :: st) (hup h q (gI G N (fun _ => 0)))) : J p l e R s m args below meth c Q nL G A cells slots pc L (.int (iZ (N : Int)) :: st) h := by
  intro ls H locs hl hP hA hS
  have hts := hX.2.2.2.2.1
  have hcl : (iZ (N : Int)).toNatClampNeg = N := by rw [iZ_cl (by omega)]; rfl
  have hn0 : ¬ iZ (N : Int) < 0 := fun z => by
    have h2 := (iZ_lt (a := (N : Int)) (b := 0) (by omega) (by omega)).mp z
    omega
  refine va_newaK hX.1 hX.2.1 (atype := .int) (hts _ harr) rfl hdg rfl hn0 hcl (Nat.le_trans (Nat.mul_le_mul hN (show componentBytes .int ≤ 8 by decide)) (by decide)) hf.1 hf.2 rfl fun H1 cA e1 z1 o1 hAr hNm => ?_
  have hcA : cA = G.2.1 0 := Option.some.inj (hNm.symm.trans (hX.2.2.2.2.2.1.1.2 0 _ rfl).2)
  subst hcA
  refine kk H.size (hP.fresh (Nat.le_refl _)) ls H1 locs hl (hP.new (e := gI G N (fun _ => 0)) ?_ o1) (fun b y hb => ?_) ⟨Nat.le_trans hS.1 (by omega), fun x q1 q2 => (o1 x (Nat.lt_of_lt_of_le q1 hS.1)).trans (hS.2.1 x q1 q2), hS.2.2⟩
  · exact e1
  · by_cases hba : b = H.size
    · rw [hba]; exact hX.2.2.2.2.2.2.2.1 _ hS.1
    · rw [hup_ne hba] at hb; exact hA _ _ hb
theorem j_newaJ (hX : CX p s m args c cc nL own G B A) {N : Nat} (harr : Cond.arrayClass .long ∈ lw_g) (hdg : decode cc pc = .ok (.newarray .long, 2)) (hN : N ≤ 1000) (hf : cells + 1 ≤ R.cells ∧ slots + N ≤ R.slots) (kk : ∀ q : Nat, h q = none → J p l e R s m args below meth c Q nL G A (cells + 1) (slots + N) (pc + 2) L (.ref q :: st) (hup h q (gJ G N (fun _ => 0)))) : J p l e R s m args below meth c Q nL G A cells slots pc L (.int (iZ (N : Int)) :: st) h := by
  intro ls H locs hl hP hA hS
  have hts := hX.2.2.2.2.1
  have hcl : (iZ (N : Int)).toNatClampNeg = N := by rw [iZ_cl (by omega)]; rfl
  have hn0 : ¬ iZ (N : Int) < 0 := fun z => by
    have h2 := (iZ_lt (a := (N : Int)) (b := 0) (by omega) (by omega)).mp z
    omega
  refine va_newaK hX.1 hX.2.1 (atype := .long) (hts _ harr) rfl hdg rfl hn0 hcl (Nat.le_trans (Nat.mul_le_mul hN (show componentBytes .long ≤ 8 by decide)) (by decide)) hf.1 hf.2 rfl fun H1 cA e1 z1 o1 hAr hNm => ?_
  have hcA : cA = G.2.1 1 := Option.some.inj (hNm.symm.trans (hX.2.2.2.2.2.1.1.2 1 _ rfl).2)
  subst hcA
  refine kk H.size (hP.fresh (Nat.le_refl _)) ls H1 locs hl (hP.new (e := gJ G N (fun _ => 0)) ?_ o1) (fun b y hb => ?_) ⟨Nat.le_trans hS.1 (by omega), fun x q1 q2 => (o1 x (Nat.lt_of_lt_of_le q1 hS.1)).trans (hS.2.1 x q1 q2), hS.2.2⟩
  · exact e1
  · by_cases hba : b = H.size
    · rw [hba]; exact hX.2.2.2.2.2.2.2.1 _ hS.1
    · rw [hup_ne hba] at hb; exact hA _ _ hb
theorem j_newaZ (hX : CX p s m args c cc nL own G B A) {N : Nat} (harr : Cond.arrayClass .boolean ∈ lw_g) (hdg : decode cc pc = .ok (.newarray .boolean, 2)) (hN : N ≤ 1000) (hf : cells + 1 ≤ R.cells ∧ slots + N ≤ R.slots) (kk : ∀ q : Nat, h q = none → J p l e R s m args below meth c Q nL G A (cells + 1) (slots + N) (pc + 2) L (.ref q :: st) (hup h q (gZ G N (fun _ => 0)))) : J p l e R s m args below meth c Q nL G A cells slots pc L (.int (iZ (N : Int)) :: st) h := by
  intro ls H locs hl hP hA hS
  have hts := hX.2.2.2.2.1
  have hcl : (iZ (N : Int)).toNatClampNeg = N := by rw [iZ_cl (by omega)]; rfl
  have hn0 : ¬ iZ (N : Int) < 0 := fun z => by
    have h2 := (iZ_lt (a := (N : Int)) (b := 0) (by omega) (by omega)).mp z
    omega
  refine va_newaK hX.1 hX.2.1 (atype := .boolean) (hts _ harr) rfl hdg rfl hn0 hcl (Nat.le_trans (Nat.mul_le_mul hN (show componentBytes .boolean ≤ 8 by decide)) (by decide)) hf.1 hf.2 rfl fun H1 cA e1 z1 o1 hAr hNm => ?_
  have hcA : cA = G.2.1 2 := Option.some.inj (hNm.symm.trans (hX.2.2.2.2.2.1.1.2 2 _ rfl).2)
  subst hcA
  refine kk H.size (hP.fresh (Nat.le_refl _)) ls H1 locs hl (hP.new (e := gZ G N (fun _ => 0)) ?_ o1) (fun b y hb => ?_) ⟨Nat.le_trans hS.1 (by omega), fun x q1 q2 => (o1 x (Nat.lt_of_lt_of_le q1 hS.1)).trans (hS.2.1 x q1 q2), hS.2.2⟩
  · exact e1
  · by_cases hba : b = H.size
    · rw [hba]; exact hX.2.2.2.2.2.2.2.1 _ hS.1
    · rw [hup_ne hba] at hb; exact hA _ _ hb
theorem j_lmax (hX : CX p s m args c cc nL own G B A) {i : Nat} {a b : Int} (hl1 : Cond.methodLink own i Lib.MathLoose.max_long.x ∈ lw_g) (hl2 : Cond.static Lib.MathLoose.max_long.x ∈ lw_g) (hl3 : Cond.initialized "java/lang/Math" ∈ lw_g) (hl4 : Cond.code Lib.MathLoose.max_long.x Lib.MathLoose.max_long.code 4 (some .long) ∈ lw_g) (hdg : decode cc pc = .ok (.invokestatic i, 3)) (ha : -9223372036854775808 ≤ a ∧ a < 9223372036854775808) (hb : -9223372036854775808 ≤ b ∧ b < 9223372036854775808) (hr : 1 ≤ R.frames ∧ (st.map fun v => v.category).sum + 15 ≤ R.locals) (hf : cells ≤ R.cells ∧ slots ≤ R.slots) (kk : J p l e R s m args below meth c Q nL G A cells slots (pc + 3) L (.long (lZ (if b < a then a else b)) :: st) h) : J p l e R s m args below meth c Q nL G A cells slots pc L (.long (lZ b) :: .long (lZ a) :: st) h := by
  intro ls H locs hl hP hA hS
  have hts := hX.2.2.2.2.1
  refine va_mmax_long hX.1 hX.2.1 (by rw [hX.2.2.1]; exact hl.1.symm) hX.2.2.2.1 (hts _ hl1) (hts _ hl2) (hts _ hl3) (hts _ hl4) hr.1 hr.2 hf.1 hf.2 hdg ?_
  have hk := kk ls H locs hl hP hA hS
  by_cases hc : b < a
  · rw [if_pos hc] at hk
    rw [if_pos ((lZ_lt hb ha).mpr hc)]; exact hk
  · rw [if_neg hc] at hk
    rw [if_neg (fun z => hc ((lZ_lt hb ha).mp z))]; exact hk
theorem j_lmin (hX : CX p s m args c cc nL own G B A) {i : Nat} {a b : Int} (hl1 : Cond.methodLink own i Lib.MathLoose.min_long.x ∈ lw_g) (hl2 : Cond.static Lib.MathLoose.min_long.x ∈ lw_g) (hl3 : Cond.initialized "java/lang/Math" ∈ lw_g) (hl4 : Cond.code Lib.MathLoose.min_long.x Lib.MathLoose.min_long.code 4 (some .long) ∈ lw_g) (hdg : decode cc pc = .ok (.invokestatic i, 3)) (ha : -9223372036854775808 ≤ a ∧ a < 9223372036854775808) (hb : -9223372036854775808 ≤ b ∧ b < 9223372036854775808) (hr : 1 ≤ R.frames ∧ (st.map fun v => v.category).sum + 15 ≤ R.locals) (hf : cells ≤ R.cells ∧ slots ≤ R.slots) (kk : J p l e R s m args below meth c Q nL G A cells slots (pc + 3) L (.long (lZ (if b < a then b else a)) :: st) h) : J p l e R s m args below meth c Q nL G A cells slots pc L (.long (lZ b) :: .long (lZ a) :: st) h := by
  intro ls H locs hl hP hA hS
  have hts := hX.2.2.2.2.1
  refine va_mmin_long hX.1 hX.2.1 (by rw [hX.2.2.1]; exact hl.1.symm) hX.2.2.2.1 (hts _ hl1) (hts _ hl2) (hts _ hl3) (hts _ hl4) hr.1 hr.2 hf.1 hf.2 hdg ?_
  have hk := kk ls H locs hl hP hA hS
  by_cases hc : b < a
  · rw [if_pos hc] at hk
    rw [if_pos ((lZ_lt hb ha).mpr hc)]; exact hk
  · rw [if_neg hc] at hk
    rw [if_neg (fun z => hc ((lZ_lt hb ha).mp z))]; exact hk
theorem j_imax (hX : CX p s m args c cc nL own G B A) {i : Nat} {a b : Int} (hl1 : Cond.methodLink own i Lib.Math.max.name ∈ lw_g) (hl2 : Cond.static Lib.Math.max.name ∈ lw_g) (hl3 : Cond.initialized "java/lang/Math" ∈ lw_g) (hl4 : Cond.code Lib.Math.max.name Lib.Math.max.code 2 (some .int) ∈ lw_g) (hdg : decode cc pc = .ok (.invokestatic i, 3)) (ha : -2147483648 ≤ a ∧ a < 2147483648) (hb : -2147483648 ≤ b ∧ b < 2147483648) (hr : 1 ≤ R.frames ∧ (st.map fun v => v.category).sum + 13 ≤ R.locals) (hf : cells ≤ R.cells ∧ slots ≤ R.slots) (kk : J p l e R s m args below meth c Q nL G A cells slots (pc + 3) L (.int (iZ (if a < b then b else a)) :: st) h) : J p l e R s m args below meth c Q nL G A cells slots pc L (.int (iZ b) :: .int (iZ a) :: st) h := by
  intro ls H locs hl hP hA hS
  have hts := hX.2.2.2.2.1
  refine va_mmax hX.1 hX.2.1 (by rw [hX.2.2.1]; exact hl.1.symm) hX.2.2.2.1 (hts _ hl1) (hts _ hl2) (hts _ hl3) (hts _ hl4) hr.1 hr.2 hf.1 hf.2 hdg ?_
  have hk := kk ls H locs hl hP hA hS
  by_cases hc : a < b
  · rw [if_pos hc] at hk
    rw [if_pos ((iZ_lt ha hb).mpr hc)]; exact hk
  · rw [if_neg hc] at hk
    rw [if_neg (fun z => hc ((iZ_lt ha hb).mp z))]; exact hk
theorem j_imin (hX : CX p s m args c cc nL own G B A) {i : Nat} {a b : Int} (hl1 : Cond.methodLink own i Lib.Math.min.name ∈ lw_g) (hl2 : Cond.static Lib.Math.min.name ∈ lw_g) (hl3 : Cond.initialized "java/lang/Math" ∈ lw_g) (hl4 : Cond.code Lib.Math.min.name Lib.Math.min.code 2 (some .int) ∈ lw_g) (hdg : decode cc pc = .ok (.invokestatic i, 3)) (ha : -2147483648 ≤ a ∧ a < 2147483648) (hb : -2147483648 ≤ b ∧ b < 2147483648) (hr : 1 ≤ R.frames ∧ (st.map fun v => v.category).sum + 13 ≤ R.locals) (hf : cells ≤ R.cells ∧ slots ≤ R.slots) (kk : J p l e R s m args below meth c Q nL G A cells slots (pc + 3) L (.int (iZ (if b < a then b else a)) :: st) h) : J p l e R s m args below meth c Q nL G A cells slots pc L (.int (iZ b) :: .int (iZ a) :: st) h := by
  intro ls H locs hl hP hA hS
  have hts := hX.2.2.2.2.1
  refine va_mmin hX.1 hX.2.1 (by rw [hX.2.2.1]; exact hl.1.symm) hX.2.2.2.1 (hts _ hl1) (hts _ hl2) (hts _ hl3) (hts _ hl4) hr.1 hr.2 hf.1 hf.2 hdg ?_
  have hk := kk ls H locs hl hP hA hS
  by_cases hc : b < a
  · rw [if_pos hc] at hk
    rw [if_pos ((iZ_lt hb ha).mpr hc)]; exact hk
  · rw [if_neg hc] at hk
    rw [if_neg (fun z => hc ((iZ_lt hb ha).mp z))]; exact hk
end JH
