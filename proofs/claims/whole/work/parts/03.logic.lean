/-! A LOGIC OVER THE KIT'S ROWS: the heap as a function from addresses to cells (hF), all numbers as Ints (iZ, lZ), one judgement J (a place in a method's code, its locals as an association list, its operand stack, the heap function), one form of contract Ct. -/
-- the classes whose objects the worlds hold, by their places
abbrev vwCl : List vw_C := [(RJ0, TJ0, 2), (RJx4a65c, TJx4a65c, 3), (RX0, TX0, 3), (RX1, TX1, 4), (RX2, TX2, 7), (RX3, TX3, 10), (RX4, TX4, 13), (RX5, TX5, 3), (RX6, TX6, 22)]
-- numbers
def iZ (z : Int) : Int32 := Int32.ofInt z
def lZ (z : Int) : Int64 := Int64.ofInt z
theorem iZ_toInt {z : Int} (h : -2147483648 ≤ z ∧ z < 2147483648) : (iZ z).toInt = z := by
  have e : ((Int32.size : Nat) : Int) = 4294967296 := rfl
  unfold iZ; rw [Int32.toInt_ofInt]; exact Int.bmod_eq_of_le (by omega) (by omega)
theorem lZ_toInt {z : Int} (h : -9223372036854775808 ≤ z ∧ z < 9223372036854775808) : (lZ z).toInt = z := by
  have e : ((Int64.size : Nat) : Int) = 18446744073709551616 := rfl
  unfold lZ; rw [Int64.toInt_ofInt]; exact Int.bmod_eq_of_le (by omega) (by omega)
theorem iZ_of (x : Int32) : ∃ z : Int, (-2147483648 ≤ z ∧ z < 2147483648) ∧ x = iZ z := by
  refine ⟨x.toInt, ⟨?_, ?_⟩, ?_⟩
  · have := Int32.le_toInt x; omega
  · have := Int32.toInt_lt x; omega
  · unfold iZ; rw [Int32.ofInt_toInt]
theorem lZ_of (x : Int64) : ∃ z : Int, (-9223372036854775808 ≤ z ∧ z < 9223372036854775808) ∧ x = lZ z := by
  refine ⟨x.toInt, ⟨?_, ?_⟩, ?_⟩
  · have := Int64.le_toInt x; omega
  · have := Int64.toInt_lt x; omega
  · unfold lZ; rw [Int64.ofInt_toInt]
theorem iZ_add (a b : Int) : iZ a + iZ b = iZ (a + b) := by unfold iZ; rw [Int32.ofInt_add]
theorem iZ_sub (a b : Int) : iZ a - iZ b = iZ (a - b) := by unfold iZ; rw [Int32.ofInt_sub]
theorem iZ_mul (a b : Int) : iZ a * iZ b = iZ (a * b) := by unfold iZ; rw [Int32.ofInt_mul]
theorem iZ_neg (a : Int) : - iZ a = iZ (-a) := by unfold iZ; rw [Int32.ofInt_neg]
theorem lZ_add (a b : Int) : lZ a + lZ b = lZ (a + b) := by unfold lZ; rw [Int64.ofInt_add]
theorem lZ_sub (a b : Int) : lZ a - lZ b = lZ (a - b) := by unfold lZ; rw [Int64.ofInt_sub]
theorem lZ_mul (a b : Int) : lZ a * lZ b = lZ (a * b) := by unfold lZ; rw [Int64.ofInt_mul]
theorem iZ_inj {a b : Int} (ha : -2147483648 ≤ a ∧ a < 2147483648) (hb : -2147483648 ≤ b ∧ b < 2147483648) : iZ a = iZ b ↔ a = b := by
  constructor
  · intro h
    have := congrArg Int32.toInt h
    rwa [iZ_toInt ha, iZ_toInt hb] at this
  · intro h; rw [h]
theorem lZ_inj {a b : Int} (ha : -9223372036854775808 ≤ a ∧ a < 9223372036854775808) (hb : -9223372036854775808 ≤ b ∧ b < 9223372036854775808) : lZ a = lZ b ↔ a = b := by
  constructor
  · intro h
    have := congrArg Int64.toInt h
    rwa [lZ_toInt ha, lZ_toInt hb] at this
  · intro h; rw [h]
theorem iZ_le {a b : Int} (ha : -2147483648 ≤ a ∧ a < 2147483648) (hb : -2147483648 ≤ b ∧ b < 2147483648) : iZ a ≤ iZ b ↔ a ≤ b := by
  rw [Int32.le_iff_toInt_le, iZ_toInt ha, iZ_toInt hb]
theorem iZ_lt {a b : Int} (ha : -2147483648 ≤ a ∧ a < 2147483648) (hb : -2147483648 ≤ b ∧ b < 2147483648) : iZ a < iZ b ↔ a < b := by
  rw [Int32.lt_iff_toInt_lt, iZ_toInt ha, iZ_toInt hb]
theorem lZ_lt {a b : Int} (ha : -9223372036854775808 ≤ a ∧ a < 9223372036854775808) (hb : -9223372036854775808 ≤ b ∧ b < 9223372036854775808) : lZ a < lZ b ↔ a < b := by
  rw [Int64.lt_iff_toInt_lt, lZ_toInt ha, lZ_toInt hb]
theorem iZ_toL {z : Int} (h : -2147483648 ≤ z ∧ z < 2147483648) : (iZ z).toInt64 = lZ z := by
  apply Int64.toInt_inj.mp
  rw [Int32.toInt_toInt64, iZ_toInt h, lZ_toInt (by omega)]
theorem lZ_toI {z : Int} (h : -2147483648 ≤ z ∧ z < 2147483648) : (lZ z).toInt32 = iZ z := by
  apply Int32.toInt_inj.mp
  rw [Int64.toInt_toInt32, lZ_toInt (by omega), iZ_toInt h]
  exact Int.bmod_eq_of_le (by omega) (by omega)
theorem iZ_div {a b : Int} (ha : 0 ≤ a ∧ a < 2147483648) (hb : 0 < b ∧ b < 2147483648) : iZ a / iZ b = iZ (a / b) := by
  apply Int32.toInt_inj.mp
  have h1 : a / b ≤ a := Int.ediv_le_self _ ha.1
  have h0 : 0 ≤ a / b := Int.ediv_nonneg ha.1 (by omega)
  rw [Int32.toInt_div, iZ_toInt (by omega), iZ_toInt (by omega), iZ_toInt (by omega), Int.tdiv_eq_ediv_of_nonneg ha.1]
  exact Int.bmod_eq_of_le (by omega) (by omega)
theorem lZ_div {a b : Int} (ha : 0 ≤ a ∧ a < 9223372036854775808) (hb : 0 < b ∧ b < 9223372036854775808) : lZ a / lZ b = lZ (a / b) := by
  apply Int64.toInt_inj.mp
  have h1 : a / b ≤ a := Int.ediv_le_self _ ha.1
  have h0 : 0 ≤ a / b := Int.ediv_nonneg ha.1 (by omega)
  rw [Int64.toInt_div, lZ_toInt (by omega), lZ_toInt (by omega), lZ_toInt (by omega), Int.tdiv_eq_ediv_of_nonneg ha.1]
  exact Int.bmod_eq_of_le (by omega) (by omega)
theorem iZ_ne0 {b : Int} (hb : 0 < b ∧ b < 2147483648) : ¬ iZ b = 0 := by
  intro h
  have h2 := (iZ_inj (a := b) (b := 0) (by omega) (by omega)).mp h
  omega
theorem lZ_ne0 {b : Int} (hb : 0 < b ∧ b < 9223372036854775808) : ¬ lZ b = 0 := by
  intro h
  have h2 := (lZ_inj (a := b) (b := 0) (by omega) (by omega)).mp h
  omega
theorem iZ_in {i : Int} {n : Nat} (h : 0 ≤ i ∧ i < (n : Int)) (hn : i < 2147483648) : vp_in (iZ i) n := by
  rw [vp_in_iff, iZ_toInt (by omega)]; exact h
theorem iZ_cl {i : Int} (h : 0 ≤ i ∧ i < 2147483648) : (iZ i).toNatClampNeg = i.toNat := by
  show (iZ i).toInt.toNat = _
  rw [iZ_toInt (by omega)]
-- the heap as a function
abbrev hF : Type := Nat → Option va_E
def hup (h : hF) (a : Nat) (e : va_E) : hF := fun b => if b = a then some e else h b
theorem hup_eq (h : hF) (a : Nat) (e : va_E) : hup h a e a = some e := by simp [hup]
theorem hup_ne {h : hF} {a : Nat} {e : va_E} {b : Nat} (n : b ≠ a) : hup h a e b = h b := by simp [hup, n]
theorem hup_k {h : hF} {a b : Nat} {e x y : va_E} (hb : h b = some x) (ha : h a = some y) (hn : x ≠ y) : hup h a e b = some x := by
  rw [hup_ne, hb]
  intro q
  subst q
  rw [hb] at ha
  exact hn (Option.some.inj ha)
/-- array classes: int, long, boolean, Object; the empty array of ArrayList -/
abbrev Gt : Type := va_G × (Nat → ClassId) × Nat
abbrev gI (G : Gt) (n : Nat) (f : Nat → Int) : va_E := .inl (G.2.1 0, n, .inl (fun j => iZ (f j)))
abbrev gJ (G : Gt) (n : Nat) (f : Nat → Int) : va_E := .inl (G.2.1 1, n, .inr (.inl (fun j => lZ (f j))))
abbrev gZ (G : Gt) (n : Nat) (f : Nat → Int) : va_E := .inl (G.2.1 2, n, .inl (fun j => iZ (f j)))
abbrev gQ (G : Gt) (n : Nat) (f : Nat → Option Nat) : va_E := .inl (G.2.1 3, n, .inr (.inr (.inr (.inr f))))
abbrev gty (G : Gt) : List (ClassId × FieldType) := [(G.2.1 0, .int), (G.2.1 1, .long), (G.2.1 2, .boolean), (G.2.1 3, .object "java/lang/Object")]
def HP (G : Gt) (h : hF) (H : Heap) : Prop := ∀ (a : Nat) (e : va_E), h a = some e → va_at G.1 vwCl (a, e) H
theorem HP.one {G : Gt} {h : hF} {H : Heap} (hP : HP G h H) {a : Nat} {e : va_E} (ha : h a = some e) : va_P G.1 vwCl [(a, e)] H := by
  intro k q hq
  match k, hq with
  | 0, hq => cases hq; exact hP _ _ ha
theorem HP.up {G : Gt} {h : hF} {H H1 : Heap} (hP : HP G h H) {a : Nat} {e : va_E} (he : va_at G.1 vwCl (a, e) H1) (oq : ∀ q : Nat, q ≠ a → H1[q]? = H[q]?) : HP G (hup h a e) H1 := by
  intro b e' hb
  by_cases hba : b = a
  · subst hba
    rw [hup_eq] at hb
    cases hb
    exact he
  · rw [hup_ne hba] at hb
    exact (hP _ _ hb).kept (oq b hba)
theorem HP.lt {G : Gt} {h : hF} {H : Heap} (hP : HP G h H) {a : Nat} {e : va_E} (ha : h a = some e) : a < H.size := (hP _ _ ha).lt
theorem HP.new {G : Gt} {h : hF} {H H1 : Heap} (hP : HP G h H) {e : va_E} (he : va_at G.1 vwCl (H.size, e) H1) (oq : ∀ q : Nat, q < H.size → H1[q]? = H[q]?) : HP G (hup h H.size e) H1 := by
  intro b e' hb
  by_cases hba : b = H.size
  · subst hba
    rw [hup_eq] at hb
    cases hb
    exact he
  · rw [hup_ne hba] at hb
    exact (hP _ _ hb).kept (oq b (hP.lt hb))
theorem HP.fresh {G : Gt} {h : hF} {H : Heap} (hP : HP G h H) {a : Nat} (ha : H.size ≤ a) : h a = none := by
  cases hh : h a with
  | none => rfl
  | some e => exact absurd (hP.lt hh) (by omega)
-- words
def lw_g : List Cond := lw_tbl.filter goodWord
theorem lw_g_in {w : Cond} (h : w ∈ lw_tbl) (hg : goodWord w = true) : w ∈ lw_g := List.mem_filter.mpr ⟨h, hg⟩
theorem lw_g_at {w : Cond} (i : Nat) (h : tables_1[i]? = some w) (hg : goodWord w = true) : w ∈ lw_g := lw_g_in (List.mem_append_right _ (List.mem_of_getElem? h)) hg
theorem lw_g_s {w : Cond} (i : Nat) (h : (k2_sels lw_privs)[i]? = some w) (hg : goodWord w = true) : w ∈ lw_g := lw_g_in (List.mem_append_left _ (List.mem_of_getElem? h)) hg
theorem lw_g_good {w : Cond} (h : w ∈ lw_g) : (w.onTables && w.keeps) = true ∨ ∃ ty, w = .arrayClass ty := good_of_word (List.mem_filter.mp h).2
theorem good_g {c : Cond} (hc : c ∈ lw_g) : GoodIn lw_g (c :: lw_g) := by
  intro w hw
  rcases List.mem_cons.mp hw with rfl | hw
  · exact ⟨hc, lw_g_good hc⟩
  · exact ⟨hw, lw_g_good hw⟩
/-- links to private members of a nest mate -/
def nestL : List (String × Nat × MethodName × String) := [("AnswerSums", 18, ⟨"AnswerSums$Phases", "<init>", "()V"⟩, "AnswerSums"), ("AnswerSums", 25, ⟨"AnswerSums$Finding", "<init>", "()V"⟩, "AnswerSums"), ("AnswerSums$Core", 104, ⟨"AnswerSums", "upwards", "(JJ)J"⟩, "AnswerSums"), ("AnswerSums$Part", 31, ⟨"AnswerSums", "upwards", "(JJ)J"⟩, "AnswerSums"), ("AnswerSums$Part", 43, ⟨"AnswerSums", "whole", "(JJ)J"⟩, "AnswerSums"), ("AnswerSums$Phases", 99, ⟨"AnswerSums", "whole", "(JJ)J"⟩, "AnswerSums"), ("AnswerSums$Task", 21, ⟨"AnswerSums$Finding", "<init>", "()V"⟩, "AnswerSums")]
/-- what is known of the machine's tables -/
def KK (G : Gt) (U : State) : Prop := va_K G.1 vwCl (gty G) U ∧ (∀ q ∈ nestL, va_Nw (.methodLinkNest q.1 q.2.1 q.2.2.1 q.2.2.2) U) ∧ va_Nw (.castable "AnswerSums$Task" "AnswerSums$Part") U ∧ (∀ C ∈ (["AnswerSums$Task", "AnswerSums$Part"] : List String), va_Nw (.castable C "java/lang/Object") U) ∧ va_AO "java/lang/Object" U ∧ va_Dc U ∧ ∃ mi, va_Mi "[Ljava/lang/Object;" mi U
theorem KK.warm {G : Gt} {s U : State} (hW : s.WarmedH U.vm) (h : KK G s) : KK G U := by
  obtain ⟨h1, h2, h3, h4, h5, h6, mi, h7⟩ := h
  exact ⟨h1.moved hW.alike, fun q hq => (h2 q hq).warmM hW, h3.warmC hW, fun C hC => (h4 C hC).warmC hW, h5.moved hW.alike, h6.moved hW.alike, mi, h7.moved hW.alike⟩
theorem KK.same {G : Gt} {u U : State} (hv : u.vm = U.vm) (h : KK G u) : KK G U := by
  obtain ⟨h1, h2, h3, h4, h5, h6, mi, h7⟩ := h
  have ha : u.vm.Alike U.vm := by rw [hv]; exact Vm.Alike.refl U.vm
  exact ⟨h1.moved ha, fun q hq => (h2 q hq).same rfl hv, h3.same rfl hv, fun C hC => (h4 C hC).same rfl hv, h5.moved ha, h6.moved ha, mi, h7.moved ha⟩
/-- what is known of the constants' cells: they lie below B -/
def SZ (G : Gt) (B : Nat) (U : State) (H : Heap) : Prop := va_Z "java/util/ArrayList" "DEFAULTCAPACITY_EMPTY_ELEMENTDATA" "[Ljava/lang/Object;" (.ref G.2.2) (fun q => B ≤ q) U H ∧ G.2.2 < B ∧ va_T (.object "java/lang/Object") G.2.2 0 (fun _ => .null) (fun q => B ≤ q) U H
theorem SZ.moved {G : Gt} {B : Nat} {u U : State} {H : Heap} (ha : u.vm.Alike U.vm) (h : SZ G B u H) : SZ G B U H := ⟨h.1.moved ha, h.2.1, h.2.2.moved ha⟩
theorem SZ.kept {G : Gt} {B : Nat} {U : State} {H H1 : Heap} (h : SZ G B U H) (hk : ∀ q : Nat, q < H.size → ¬ B ≤ q → H1[q]? = H[q]?) : SZ G B U H1 := ⟨h.1.kept hk, h.2.1, h.2.2.kept hk⟩
