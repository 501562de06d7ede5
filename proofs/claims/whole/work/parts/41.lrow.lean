/-! THE LAW: its rows, its cases but the first -/
theorem dL_law_873 : decode cL_law 873 = .ok (.goto (-850), 3) := by decide +kernel
theorem dL_law_876 : decode cL_law 876 = .ok (.iconst 1, 1) := by decide +kernel
theorem dL_law_877 : decode cL_law 877 = .ok (.ireturn, 1) := by decide +kernel
def shlZ (x y : Int) : Int := (lZ x <<< ((iZ y).toInt64 &&& 63)).toInt
def landZ (x y : Int) : Int := (lZ x &&& lZ y).toInt
def lorZ (x y : Int) : Int := (lZ x ||| lZ y).toInt
def iandZ (x y : Int) : Int := (iZ x &&& iZ y).toInt
theorem i32r (x : Int32) : -2147483648 ≤ x.toInt ∧ x.toInt < 2147483648 := by
  refine ⟨?_, ?_⟩
  · have := Int32.le_toInt x; omega
  · have := Int32.toInt_lt x; omega
theorem i64r (x : Int64) : -9223372036854775808 ≤ x.toInt ∧ x.toInt < 9223372036854775808 := by
  refine ⟨?_, ?_⟩
  · have := Int64.le_toInt x; omega
  · have := Int64.toInt_lt x; omega
theorem lorZ_r (x y : Int) : -9223372036854775808 ≤ lorZ x y ∧ lorZ x y < 9223372036854775808 := i64r _
theorem lZ_of_toInt (v : Int64) : lZ v.toInt = v := by unfold lZ; rw [Int64.ofInt_toInt]
theorem iZ_of_toInt (v : Int32) : iZ v.toInt = v := by unfold iZ; rw [Int32.ofInt_toInt]
section JL
variable {p : Program} {l : Launch} {e : Env} {R : Room} {s : State} {m : MethodId} {args : Array Value} {below : List Frame} {meth : Method} {c : Code} {Q : State → Prop} {nL : Nat} {G : Gt} {A : Nat → Prop} {cells slots pc : Nat} {L : List (Nat × Value)} {st : List Value} {h : hF} {cc : ByteArray} {own : String} {B : Nat}

theorem j_lshl (hX : CX p s m args c cc nL own G B A) {x y : Int} (hdg : decode cc pc = .ok (.lshl, 1)) (k : J p l e R s m args below meth c Q nL G A cells slots (pc + 1) L (.long (lZ (shlZ x y)) :: st) h) : J p l e R s m args below meth c Q nL G A cells slots pc L (.int (iZ y) :: .long (lZ x) :: st) h := fun ls H locs hl hP hA hS => lv_lshl hX.1 hX.2.1 hdg rfl (by have k2 := k ls H locs hl hP hA hS; unfold shlZ at k2; rw [lZ_of_toInt] at k2; exact k2)
theorem j_land (hX : CX p s m args c cc nL own G B A) {x y : Int} (hdg : decode cc pc = .ok (.land, 1)) (k : J p l e R s m args below meth c Q nL G A cells slots (pc + 1) L (.long (lZ (landZ x y)) :: st) h) : J p l e R s m args below meth c Q nL G A cells slots pc L (.long (lZ y) :: .long (lZ x) :: st) h := fun ls H locs hl hP hA hS => lv_land hX.1 hX.2.1 hdg (by have k2 := k ls H locs hl hP hA hS; unfold landZ at k2; rw [lZ_of_toInt] at k2; exact k2)
theorem j_lor (hX : CX p s m args c cc nL own G B A) {x y : Int} (hdg : decode cc pc = .ok (.lor, 1)) (k : J p l e R s m args below meth c Q nL G A cells slots (pc + 1) L (.long (lZ (lorZ x y)) :: st) h) : J p l e R s m args below meth c Q nL G A cells slots pc L (.long (lZ y) :: .long (lZ x) :: st) h := fun ls H locs hl hP hA hS => lv_lor hX.1 hX.2.1 hdg (by have k2 := k ls H locs hl hP hA hS; unfold lorZ at k2; rw [lZ_of_toInt] at k2; exact k2)
theorem j_iand (hX : CX p s m args c cc nL own G B A) {x y : Int} (hdg : decode cc pc = .ok (.iand, 1)) (k : J p l e R s m args below meth c Q nL G A cells slots (pc + 1) L (.int (iZ (iandZ x y)) :: st) h) : J p l e R s m args below meth c Q nL G A cells slots pc L (.int (iZ y) :: .int (iZ x) :: st) h := fun ls H locs hl hP hA hS => lv_iand hX.1 hX.2.1 hdg (by have k2 := k ls H locs hl hP hA hS; unfold iandZ at k2; rw [iZ_of_toInt] at k2; exact k2)
/-- an int of the script -/
theorem j_sld (hX : CX p s m args c cc nL own G B A) {b L9 : Nat} {xs : Nat → Int32} (hx : va_X b L9 xs s s.heap) (hbl : b < s.heap.size) (hbA : ¬ A b) (j : Nat) {z : Int} (hz : z = (j : Int)) (hj : j < L9) (hL9 : L9 ≤ 3072) (hdg : decode cc pc = .ok (.iaload, 1)) (kk : J p l e R s m args below meth c Q nL G A cells slots (pc + 1) L (.int (iZ (xs j).toInt) :: st) h) : J p l e R s m args below meth c Q nL G A cells slots pc L (.int (iZ z) :: .ref b :: st) h := by
  subst hz
  intro ls H locs hl hP hA hS
  refine va_sld hX.1 hX.2.1 hx hbl hbA hS (iZ_in (by omega) (by omega)) hdg ?_
  rw [iZ_cl (by omega), Int.toNat_natCast]
  have k2 := kk ls H locs hl hP hA hS
  rw [iZ_of_toInt] at k2
  exact k2
theorem j_slen (hX : CX p s m args c cc nL own G B A) {b L9 : Nat} {xs : Nat → Int32} (hx : va_X b L9 xs s s.heap) (hbl : b < s.heap.size) (hbA : ¬ A b) (hdg : decode cc pc = .ok (.arraylength, 1)) (kk : J p l e R s m args below meth c Q nL G A cells slots (pc + 1) L (.int (iZ (L9 : Int)) :: st) h) : J p l e R s m args below meth c Q nL G A cells slots pc L (.ref b :: st) h := by
  intro ls H locs hl hP hA hS
  exact va_slen hX.1 hX.2.1 hx hbl hbA hS hdg (kk ls H locs hl hP hA hS)
theorem j_icmpS (hX : CX p s m args c cc nL own G B A) {a off : Int} (tgt : Nat) (hdg : decode cc pc = .ok (.if_icmp .eq off, 3)) (ht : (pc : Int) + off = (tgt : Int)) (kt : J p l e R s m args below meth c Q nL G A cells slots tgt L st h) : J p l e R s m args below meth c Q nL G A cells slots pc L (.int (iZ a) :: .int (iZ a) :: st) h := fun ls H locs hl hP hA hS => lv_icmp_eq hX.1 hX.2.1 hdg ht (fun _ => kt ls H locs hl hP hA hS) (fun q => absurd rfl q)
theorem j_lcmpS (hX : CX p s m args c cc nL own G B A) {a off : Int} (tgt : Nat) (hd1 : decode cc pc = .ok (.lcmp, 1)) (hd2 : decode cc (pc + 1) = .ok (.ifCond .eq off, 3)) (ht : ((pc + 1 : Nat) : Int) + off = (tgt : Int)) (kt : J p l e R s m args below meth c Q nL G A cells slots tgt L st h) : J p l e R s m args below meth c Q nL G A cells slots pc L (.long (lZ a) :: .long (lZ a) :: st) h := by
  intro ls H locs hl hP hA hS
  refine W.lcmp hX.1 hX.2.1 hd1 ?_
  have e1 : lg_cmp (lZ a) (lZ a) = iZ 0 := by
    have h0 : ¬ (lZ a < lZ a) := Int64.lt_irrefl
    unfold lg_cmp
    simp [h0]
    rfl
  rw [e1]
  exact j_if_eq hX tgt hd2 ht (by omega) (fun _ => kt) (fun q => absurd rfl q) ls H locs hl hP hA hS
theorem j_table (hX : CX p s m args c cc nL own G B A) {x : Int} (hx : -2147483648 ≤ x ∧ x < 2147483648) (hdg : decode cc 40 = .ok (.tableswitch 830 0 11 #[64, 208, 277, 358, 439, 508, 534, 583, 609, 635, 660, 761], 64))
    (k0 : x = 0 → J p l e R s m args below meth c Q nL G A cells slots 104 L st h)
    (k1 : x = 1 → J p l e R s m args below meth c Q nL G A cells slots 248 L st h)
    (k2 : x = 2 → J p l e R s m args below meth c Q nL G A cells slots 317 L st h)
    (k3 : x = 3 → J p l e R s m args below meth c Q nL G A cells slots 398 L st h)
    (k4 : x = 4 → J p l e R s m args below meth c Q nL G A cells slots 479 L st h)
    (k5 : x = 5 → J p l e R s m args below meth c Q nL G A cells slots 548 L st h)
    (k6 : x = 6 → J p l e R s m args below meth c Q nL G A cells slots 574 L st h)
    (k7 : x = 7 → J p l e R s m args below meth c Q nL G A cells slots 623 L st h)
    (k8 : x = 8 → J p l e R s m args below meth c Q nL G A cells slots 649 L st h)
    (k9 : x = 9 → J p l e R s m args below meth c Q nL G A cells slots 675 L st h)
    (k10 : x = 10 → J p l e R s m args below meth c Q nL G A cells slots 700 L st h)
    (k11 : x = 11 → J p l e R s m args below meth c Q nL G A cells slots 801 L st h)
    (kd : J p l e R s m args below meth c Q nL G A cells slots 870 L st h) : J p l e R s m args below meth c Q nL G A cells slots 40 L (.int (iZ x) :: st) h := by
  intro ls H locs hl hP hA hS
  by_cases ho : x < 0 ∨ 11 < x
  · exact lv_tableOut hX.1 hX.2.1 hdg (by rw [iZ_toInt hx]; exact ho) (tgt := 870) rfl (kd ls H locs hl hP hA hS)
  · have hc : x = 0 ∨ x = 1 ∨ x = 2 ∨ x = 3 ∨ x = 4 ∨ x = 5 ∨ x = 6 ∨ x = 7 ∨ x = 8 ∨ x = 9 ∨ x = 10 ∨ x = 11 := by omega
    rcases hc with rfl | rfl | rfl | rfl | rfl | rfl | rfl | rfl | rfl | rfl | rfl | rfl
    · exact lv_tableIn hX.1 hX.2.1 hdg (off := 64) (tgt := 104) (by rw [iZ_toInt (by omega)]; omega) (by rw [iZ_toInt (by omega)]; omega) rfl rfl (k0 rfl ls H locs hl hP hA hS)
    · exact lv_tableIn hX.1 hX.2.1 hdg (off := 208) (tgt := 248) (by rw [iZ_toInt (by omega)]; omega) (by rw [iZ_toInt (by omega)]; omega) rfl rfl (k1 rfl ls H locs hl hP hA hS)
    · exact lv_tableIn hX.1 hX.2.1 hdg (off := 277) (tgt := 317) (by rw [iZ_toInt (by omega)]; omega) (by rw [iZ_toInt (by omega)]; omega) rfl rfl (k2 rfl ls H locs hl hP hA hS)
    · exact lv_tableIn hX.1 hX.2.1 hdg (off := 358) (tgt := 398) (by rw [iZ_toInt (by omega)]; omega) (by rw [iZ_toInt (by omega)]; omega) rfl rfl (k3 rfl ls H locs hl hP hA hS)
    · exact lv_tableIn hX.1 hX.2.1 hdg (off := 439) (tgt := 479) (by rw [iZ_toInt (by omega)]; omega) (by rw [iZ_toInt (by omega)]; omega) rfl rfl (k4 rfl ls H locs hl hP hA hS)
    · exact lv_tableIn hX.1 hX.2.1 hdg (off := 508) (tgt := 548) (by rw [iZ_toInt (by omega)]; omega) (by rw [iZ_toInt (by omega)]; omega) rfl rfl (k5 rfl ls H locs hl hP hA hS)
    · exact lv_tableIn hX.1 hX.2.1 hdg (off := 534) (tgt := 574) (by rw [iZ_toInt (by omega)]; omega) (by rw [iZ_toInt (by omega)]; omega) rfl rfl (k6 rfl ls H locs hl hP hA hS)
    · exact lv_tableIn hX.1 hX.2.1 hdg (off := 583) (tgt := 623) (by rw [iZ_toInt (by omega)]; omega) (by rw [iZ_toInt (by omega)]; omega) rfl rfl (k7 rfl ls H locs hl hP hA hS)
    · exact lv_tableIn hX.1 hX.2.1 hdg (off := 609) (tgt := 649) (by rw [iZ_toInt (by omega)]; omega) (by rw [iZ_toInt (by omega)]; omega) rfl rfl (k8 rfl ls H locs hl hP hA hS)
    · exact lv_tableIn hX.1 hX.2.1 hdg (off := 635) (tgt := 675) (by rw [iZ_toInt (by omega)]; omega) (by rw [iZ_toInt (by omega)]; omega) rfl rfl (k9 rfl ls H locs hl hP hA hS)
    · exact lv_tableIn hX.1 hX.2.1 hdg (off := 660) (tgt := 700) (by rw [iZ_toInt (by omega)]; omega) (by rw [iZ_toInt (by omega)]; omega) rfl rfl (k10 rfl ls H locs hl hP hA hS)
    · exact lv_tableIn hX.1 hX.2.1 hdg (off := 761) (tgt := 801) (by rw [iZ_toInt (by omega)]; omega) (by rw [iZ_toInt (by omega)]; omega) rfl rfl (k11 rfl ls H locs hl hP hA hS)
end JL
abbrev Lw (b bx bm bo k : Nat) : List (Nat × Value) := [(0, .ref b), (1, .ref bx), (2, .ref bm), (3, .ref bo), (4, .int (iZ ((6 * k : Nat) : Int)))]
set_option maxRecDepth 100000 in
set_option maxHeartbeats 4000000 in
theorem law_1 {p : Program} {l : Launch} {e : Env} {R : Room} {s : State} {m : MethodId} {args : Array Value} {below : List Frame} {meth : Method} {c : Code} {Q : State → Prop} {G : Gt} {A : Nat → Prop} {cells slots : Nat} {h : hF} {B : Nat} (hX : CX p s m args c cL_law 7 RL G B A) {b L9 : Nat} {xs : Nat → Int32} (hx : va_X b L9 xs s s.heap) (hbl : b < s.heap.size) (hbA : ¬ A b) (hRf : 18 ≤ R.frames) (hRl : 2000 ≤ R.locals) (hcs : cells + 20 ≤ R.cells ∧ slots + 200 ≤ R.slots) {bx bm bo : Nat} {A9 : Nat → Nat} {σ : St} {n m9 : Nat} (hI : LI G h bx bm bo A9 σ n m9) {k : Nat} (hk : 6 * k + 6 ≤ L9) (hL9 : L9 ≤ 3072) (next : ∀ (σ9 : St) (n9 m8 : Nat) (h9 : hF), LI G h9 bx bm bo A9 σ9 n9 m8 → J p l e R s m args below meth c Q 7 G A (cells + 20) (slots + 200) 870 (Lw b bx bm bo k) [] h9) : J p l e R s m args below meth c Q 7 G A cells slots 248 (Lw b bx bm bo k) [] h := by
  obtain ⟨AD, sp, tu, th, fo, hL, rfl, hM, hO, ho, hd, hbo⟩ := hI
  have h_X := hL.1.2.1.2
  refine j_aload_n hX dL_law_248 rfl ?_
  refine j_aload_n hX dL_law_249 rfl ?_
  refine j_iload hX dL_law_250 rfl ?_
  refine j_iconst hX dL_law_252 ?_
  refine j_iadd hX dL_law_253 ?_
  refine j_sld hX hx hbl hbA (6 * k + 1) (by omega) (by omega) hL9 dL_law_254 ?_
  refine j_aload_n hX dL_law_255 rfl ?_
  refine j_iload hX dL_law_256 rfl ?_
  refine j_iconst hX dL_law_258 ?_
  refine j_iadd hX dL_law_259 ?_
  refine j_sld hX hx hbl hbA (6 * k + 2) (by omega) (by omega) hL9 dL_law_260 ?_
  refine j_i2l hX dL_law_261 (i32r _) ?_
  refine j_bipush hX dL_law_262 (by decide) ?_
  refine j_lshl hX dL_law_264 ?_
  refine j_aload_n hX dL_law_265 rfl ?_
  refine j_iload hX dL_law_266 rfl ?_
  refine j_iconst hX dL_law_268 ?_
  refine j_iadd hX dL_law_269 ?_
  refine j_sld hX hx hbl hbA (6 * k + 3) (by omega) (by omega) hL9 dL_law_270 ?_
  refine j_i2l hX dL_law_271 (i32r _) ?_
  refine j_ldc2 hX k_L_19 (z := 4294967295) (by decide) dL_law_272 ?_
  refine j_land hX dL_law_275 ?_
  refine j_lor hX dL_law_276 ?_
  refine j_callV hX cv_L_31 (c_jitter hL hO (i32r _) (lorZ_r _ _)) dL_law_277 h_X rfl rfl (by exact ⟨by omega, by omega⟩) (by exact ⟨by omega, by omega⟩) (by exact Nat.le_of_ble_eq_true rfl) (fun v277 h277 hp277 => ?_) rfl
  obtain ⟨rfl, hL2, hF⟩ := hp277
  obtain ⟨hM2, ho2, hd2⟩ := LI.mid hM ho hd (Fn.of hF)
  have h_M := hM2.1
  refine j_aload_n hX dL_law_280 rfl ?_
  refine j_aload_n hX dL_law_281 rfl ?_
  refine j_iload hX dL_law_282 rfl ?_
  refine j_iconst hX dL_law_284 ?_
  refine j_iadd hX dL_law_285 ?_
  refine j_sld hX hx hbl hbA (6 * k + 1) (by omega) (by omega) hL9 dL_law_286 ?_
  refine j_aload_n hX dL_law_287 rfl ?_
  refine j_iload hX dL_law_288 rfl ?_
  refine j_iconst hX dL_law_290 ?_
  refine j_iadd hX dL_law_291 ?_
  refine j_sld hX hx hbl hbA (6 * k + 2) (by omega) (by omega) hL9 dL_law_292 ?_
  refine j_i2l hX dL_law_293 (i32r _) ?_
  refine j_bipush hX dL_law_294 (by decide) ?_
  refine j_lshl hX dL_law_296 ?_
  refine j_aload_n hX dL_law_297 rfl ?_
  refine j_iload hX dL_law_298 rfl ?_
  refine j_iconst hX dL_law_300 ?_
  refine j_iadd hX dL_law_301 ?_
  refine j_sld hX hx hbl hbA (6 * k + 3) (by omega) (by omega) hL9 dL_law_302 ?_
  refine j_i2l hX dL_law_303 (i32r _) ?_
  refine j_ldc2 hX k_L_19 (z := 4294967295) (by decide) dL_law_304 ?_
  refine j_land hX dL_law_307 ?_
  refine j_lor hX dL_law_308 ?_
  refine j_callV hX cv_L_35 (c6_jitter hM2 hO (i32r _) (lorZ_r _ _)) dL_law_309 h_M rfl rfl (by exact ⟨by omega, by omega⟩) (by exact ⟨by omega, by omega⟩) (by exact Nat.le_of_ble_eq_true rfl) (fun v309 h309 hp309 => ?_) rfl
  obtain ⟨rfl, sp2, tu2, hM3, hFm⟩ := hp309
  refine j_icmpS hX 870 dL_law_312 (by decide) ?_
  exact j_wide (by omega) (by omega) (next _ _ _ _ (LI.end hL2 rfl hO.pSet.1 ho2 hd2 hbo hM3 hFm))
set_option maxRecDepth 100000 in
set_option maxHeartbeats 4000000 in
theorem law_2 {p : Program} {l : Launch} {e : Env} {R : Room} {s : State} {m : MethodId} {args : Array Value} {below : List Frame} {meth : Method} {c : Code} {Q : State → Prop} {G : Gt} {A : Nat → Prop} {cells slots : Nat} {h : hF} {B : Nat} (hX : CX p s m args c cL_law 7 RL G B A) {b L9 : Nat} {xs : Nat → Int32} (hx : va_X b L9 xs s s.heap) (hbl : b < s.heap.size) (hbA : ¬ A b) (hRf : 18 ≤ R.frames) (hRl : 2000 ≤ R.locals) (hcs : cells + 20 ≤ R.cells ∧ slots + 200 ≤ R.slots) {bx bm bo : Nat} {A9 : Nat → Nat} {σ : St} {n m9 : Nat} (hI : LI G h bx bm bo A9 σ n m9) {k : Nat} (hk : 6 * k + 6 ≤ L9) (hL9 : L9 ≤ 3072) (next : ∀ (σ9 : St) (n9 m8 : Nat) (h9 : hF), LI G h9 bx bm bo A9 σ9 n9 m8 → J p l e R s m args below meth c Q 7 G A (cells + 20) (slots + 200) 870 (Lw b bx bm bo k) [] h9) : J p l e R s m args below meth c Q 7 G A cells slots 317 (Lw b bx bm bo k) [] h := by
  obtain ⟨AD, sp, tu, th, fo, hL, rfl, hM, hO, ho, hd, hbo⟩ := hI
  have h_X := hL.1.2.1.2
  refine j_aload_n hX dL_law_317 rfl ?_
  refine j_aload_n hX dL_law_318 rfl ?_
  refine j_iload hX dL_law_319 rfl ?_
  refine j_iconst hX dL_law_321 ?_
  refine j_iadd hX dL_law_322 ?_
  refine j_sld hX hx hbl hbA (6 * k + 1) (by omega) (by omega) hL9 dL_law_323 ?_
  refine j_aload_n hX dL_law_324 rfl ?_
  refine j_iload hX dL_law_325 rfl ?_
  refine j_iconst hX dL_law_327 ?_
  refine j_iadd hX dL_law_328 ?_
  refine j_sld hX hx hbl hbA (6 * k + 2) (by omega) (by omega) hL9 dL_law_329 ?_
  refine j_aload_n hX dL_law_330 rfl ?_
  refine j_iload hX dL_law_331 rfl ?_
  refine j_iconst hX dL_law_333 ?_
  refine j_iadd hX dL_law_334 ?_
  refine j_sld hX hx hbl hbA (6 * k + 3) (by omega) (by omega) hL9 dL_law_335 ?_
  refine j_i2l hX dL_law_336 (i32r _) ?_
  refine j_bipush hX dL_law_337 (by decide) ?_
  refine j_lshl hX dL_law_339 ?_
  refine j_aload_n hX dL_law_340 rfl ?_
  refine j_iload hX dL_law_341 rfl ?_
  refine j_iconst hX dL_law_343 ?_
  refine j_iadd hX dL_law_344 ?_
  refine j_sld hX hx hbl hbA (6 * k + 4) (by omega) (by omega) hL9 dL_law_345 ?_
  refine j_i2l hX dL_law_346 (i32r _) ?_
  refine j_ldc2 hX k_L_19 (z := 4294967295) (by decide) dL_law_347 ?_
  refine j_land hX dL_law_350 ?_
  refine j_lor hX dL_law_351 ?_
  refine j_callV hX cv_L_36 (c_burst hL hO (i32r _) (i32r _) (lorZ_r _ _)) dL_law_352 h_X rfl rfl (by exact ⟨by omega, by omega⟩) (by exact ⟨by omega, by omega⟩) (by exact Nat.le_of_ble_eq_true rfl) (fun v352 h352 hp352 => ?_) rfl
  obtain ⟨rfl, hL2, hF⟩ := hp352
  obtain ⟨hM2, ho2, hd2⟩ := LI.mid hM ho hd (Fn.of hF)
  have h_M := hM2.1
  refine j_aload_n hX dL_law_355 rfl ?_
  refine j_aload_n hX dL_law_356 rfl ?_
  refine j_iload hX dL_law_357 rfl ?_
  refine j_iconst hX dL_law_359 ?_
  refine j_iadd hX dL_law_360 ?_
  refine j_sld hX hx hbl hbA (6 * k + 1) (by omega) (by omega) hL9 dL_law_361 ?_
  refine j_aload_n hX dL_law_362 rfl ?_
  refine j_iload hX dL_law_363 rfl ?_
  refine j_iconst hX dL_law_365 ?_
  refine j_iadd hX dL_law_366 ?_
  refine j_sld hX hx hbl hbA (6 * k + 2) (by omega) (by omega) hL9 dL_law_367 ?_
  refine j_aload_n hX dL_law_368 rfl ?_
  refine j_iload hX dL_law_369 rfl ?_
  refine j_iconst hX dL_law_371 ?_
  refine j_iadd hX dL_law_372 ?_
  refine j_sld hX hx hbl hbA (6 * k + 3) (by omega) (by omega) hL9 dL_law_373 ?_
  refine j_i2l hX dL_law_374 (i32r _) ?_
  refine j_bipush hX dL_law_375 (by decide) ?_
  refine j_lshl hX dL_law_377 ?_
  refine j_aload_n hX dL_law_378 rfl ?_
  refine j_iload hX dL_law_379 rfl ?_
  refine j_iconst hX dL_law_381 ?_
  refine j_iadd hX dL_law_382 ?_
  refine j_sld hX hx hbl hbA (6 * k + 4) (by omega) (by omega) hL9 dL_law_383 ?_
  refine j_i2l hX dL_law_384 (i32r _) ?_
  refine j_ldc2 hX k_L_19 (z := 4294967295) (by decide) dL_law_385 ?_
  refine j_land hX dL_law_388 ?_
  refine j_lor hX dL_law_389 ?_
  refine j_callV hX cv_L_40 (c6_burst hM2 hO (i32r _) (i32r _) (lorZ_r _ _)) dL_law_390 h_M rfl rfl (by exact ⟨by omega, by omega⟩) (by exact ⟨by omega, by omega⟩) (by exact Nat.le_of_ble_eq_true rfl) (fun v390 h390 hp390 => ?_) rfl
  obtain ⟨rfl, sp2, tu2, hM3, hFm⟩ := hp390
  refine j_icmpS hX 870 dL_law_393 (by decide) ?_
  exact j_wide (by omega) (by omega) (next _ _ _ _ (LI.end hL2 rfl hO.pBur ho2 hd2 hbo hM3 hFm))
set_option maxRecDepth 100000 in
set_option maxHeartbeats 4000000 in
theorem law_3 {p : Program} {l : Launch} {e : Env} {R : Room} {s : State} {m : MethodId} {args : Array Value} {below : List Frame} {meth : Method} {c : Code} {Q : State → Prop} {G : Gt} {A : Nat → Prop} {cells slots : Nat} {h : hF} {B : Nat} (hX : CX p s m args c cL_law 7 RL G B A) {b L9 : Nat} {xs : Nat → Int32} (hx : va_X b L9 xs s s.heap) (hbl : b < s.heap.size) (hbA : ¬ A b) (hRf : 18 ≤ R.frames) (hRl : 2000 ≤ R.locals) (hcs : cells + 20 ≤ R.cells ∧ slots + 200 ≤ R.slots) {bx bm bo : Nat} {A9 : Nat → Nat} {σ : St} {n m9 : Nat} (hI : LI G h bx bm bo A9 σ n m9) {k : Nat} (hk : 6 * k + 6 ≤ L9) (hL9 : L9 ≤ 3072) (next : ∀ (σ9 : St) (n9 m8 : Nat) (h9 : hF), LI G h9 bx bm bo A9 σ9 n9 m8 → J p l e R s m args below meth c Q 7 G A (cells + 20) (slots + 200) 870 (Lw b bx bm bo k) [] h9) : J p l e R s m args below meth c Q 7 G A cells slots 398 (Lw b bx bm bo k) [] h := by
  obtain ⟨AD, sp, tu, th, fo, hL, rfl, hM, hO, ho, hd, hbo⟩ := hI
  have h_X := hL.1.2.1.2
  refine j_aload_n hX dL_law_398 rfl ?_
  refine j_aload_n hX dL_law_399 rfl ?_
  refine j_iload hX dL_law_400 rfl ?_
  refine j_iconst hX dL_law_402 ?_
  refine j_iadd hX dL_law_403 ?_
  refine j_sld hX hx hbl hbA (6 * k + 1) (by omega) (by omega) hL9 dL_law_404 ?_
  refine j_aload_n hX dL_law_405 rfl ?_
  refine j_iload hX dL_law_406 rfl ?_
  refine j_iconst hX dL_law_408 ?_
  refine j_iadd hX dL_law_409 ?_
  refine j_sld hX hx hbl hbA (6 * k + 2) (by omega) (by omega) hL9 dL_law_410 ?_
  refine j_aload_n hX dL_law_411 rfl ?_
  refine j_iload hX dL_law_412 rfl ?_
  refine j_iconst hX dL_law_414 ?_
  refine j_iadd hX dL_law_415 ?_
  refine j_sld hX hx hbl hbA (6 * k + 3) (by omega) (by omega) hL9 dL_law_416 ?_
  refine j_i2l hX dL_law_417 (i32r _) ?_
  refine j_bipush hX dL_law_418 (by decide) ?_
  refine j_lshl hX dL_law_420 ?_
  refine j_aload_n hX dL_law_421 rfl ?_
  refine j_iload hX dL_law_422 rfl ?_
  refine j_iconst hX dL_law_424 ?_
  refine j_iadd hX dL_law_425 ?_
  refine j_sld hX hx hbl hbA (6 * k + 4) (by omega) (by omega) hL9 dL_law_426 ?_
  refine j_i2l hX dL_law_427 (i32r _) ?_
  refine j_ldc2 hX k_L_19 (z := 4294967295) (by decide) dL_law_428 ?_
  refine j_land hX dL_law_431 ?_
  refine j_lor hX dL_law_432 ?_
  refine j_callV hX cv_L_41 (c_section hL hO (i32r _) (i32r _) (lorZ_r _ _)) dL_law_433 h_X rfl rfl (by exact ⟨by omega, by omega⟩) (by exact ⟨by omega, by omega⟩) (by exact Nat.le_of_ble_eq_true rfl) (fun v433 h433 hp433 => ?_) rfl
  obtain ⟨rfl, hL2, hF⟩ := hp433
  obtain ⟨hM2, ho2, hd2⟩ := LI.mid hM ho hd (Fn.of hF)
  have h_M := hM2.1
  refine j_aload_n hX dL_law_436 rfl ?_
  refine j_aload_n hX dL_law_437 rfl ?_
  refine j_iload hX dL_law_438 rfl ?_
  refine j_iconst hX dL_law_440 ?_
  refine j_iadd hX dL_law_441 ?_
  refine j_sld hX hx hbl hbA (6 * k + 1) (by omega) (by omega) hL9 dL_law_442 ?_
  refine j_aload_n hX dL_law_443 rfl ?_
  refine j_iload hX dL_law_444 rfl ?_
  refine j_iconst hX dL_law_446 ?_
  refine j_iadd hX dL_law_447 ?_
  refine j_sld hX hx hbl hbA (6 * k + 2) (by omega) (by omega) hL9 dL_law_448 ?_
  refine j_aload_n hX dL_law_449 rfl ?_
  refine j_iload hX dL_law_450 rfl ?_
  refine j_iconst hX dL_law_452 ?_
  refine j_iadd hX dL_law_453 ?_
  refine j_sld hX hx hbl hbA (6 * k + 3) (by omega) (by omega) hL9 dL_law_454 ?_
  refine j_i2l hX dL_law_455 (i32r _) ?_
  refine j_bipush hX dL_law_456 (by decide) ?_
  refine j_lshl hX dL_law_458 ?_
  refine j_aload_n hX dL_law_459 rfl ?_
  refine j_iload hX dL_law_460 rfl ?_
  refine j_iconst hX dL_law_462 ?_
  refine j_iadd hX dL_law_463 ?_
  refine j_sld hX hx hbl hbA (6 * k + 4) (by omega) (by omega) hL9 dL_law_464 ?_
  refine j_i2l hX dL_law_465 (i32r _) ?_
  refine j_ldc2 hX k_L_19 (z := 4294967295) (by decide) dL_law_466 ?_
  refine j_land hX dL_law_469 ?_
  refine j_lor hX dL_law_470 ?_
  refine j_callV hX cv_L_44 (c6_section hM2 hO (i32r _) (i32r _) (lorZ_r _ _)) dL_law_471 h_M rfl rfl (by exact ⟨by omega, by omega⟩) (by exact ⟨by omega, by omega⟩) (by exact Nat.le_of_ble_eq_true rfl) (fun v471 h471 hp471 => ?_) rfl
  obtain ⟨rfl, sp2, tu2, hM3, hFm⟩ := hp471
  refine j_icmpS hX 870 dL_law_474 (by decide) ?_
  exact j_wide (by omega) (by omega) (next _ _ _ _ (LI.end hL2 rfl hO.pSec ho2 hd2 hbo hM3 hFm))
set_option maxRecDepth 100000 in
set_option maxHeartbeats 4000000 in
theorem law_4 {p : Program} {l : Launch} {e : Env} {R : Room} {s : State} {m : MethodId} {args : Array Value} {below : List Frame} {meth : Method} {c : Code} {Q : State → Prop} {G : Gt} {A : Nat → Prop} {cells slots : Nat} {h : hF} {B : Nat} (hX : CX p s m args c cL_law 7 RL G B A) {b L9 : Nat} {xs : Nat → Int32} (hx : va_X b L9 xs s s.heap) (hbl : b < s.heap.size) (hbA : ¬ A b) (hRf : 18 ≤ R.frames) (hRl : 2000 ≤ R.locals) (hcs : cells + 20 ≤ R.cells ∧ slots + 200 ≤ R.slots) {bx bm bo : Nat} {A9 : Nat → Nat} {σ : St} {n m9 : Nat} (hI : LI G h bx bm bo A9 σ n m9) {k : Nat} (hk : 6 * k + 6 ≤ L9) (hL9 : L9 ≤ 3072) (next : ∀ (σ9 : St) (n9 m8 : Nat) (h9 : hF), LI G h9 bx bm bo A9 σ9 n9 m8 → J p l e R s m args below meth c Q 7 G A (cells + 20) (slots + 200) 870 (Lw b bx bm bo k) [] h9) : J p l e R s m args below meth c Q 7 G A cells slots 479 (Lw b bx bm bo k) [] h := by
  obtain ⟨AD, sp, tu, th, fo, hL, rfl, hM, hO, ho, hd, hbo⟩ := hI
  have h_X := hL.1.2.1.2
  refine j_aload_n hX dL_law_479 rfl ?_
  refine j_aload_n hX dL_law_480 rfl ?_
  refine j_iload hX dL_law_481 rfl ?_
  refine j_iconst hX dL_law_483 ?_
  refine j_iadd hX dL_law_484 ?_
  refine j_sld hX hx hbl hbA (6 * k + 1) (by omega) (by omega) hL9 dL_law_485 ?_
  refine j_aload_n hX dL_law_486 rfl ?_
  refine j_iload hX dL_law_487 rfl ?_
  refine j_iconst hX dL_law_489 ?_
  refine j_iadd hX dL_law_490 ?_
  refine j_sld hX hx hbl hbA (6 * k + 2) (by omega) (by omega) hL9 dL_law_491 ?_
  refine j_i2l hX dL_law_492 (i32r _) ?_
  refine j_bipush hX dL_law_493 (by decide) ?_
  refine j_lshl hX dL_law_495 ?_
  refine j_aload_n hX dL_law_496 rfl ?_
  refine j_iload hX dL_law_497 rfl ?_
  refine j_iconst hX dL_law_499 ?_
  refine j_iadd hX dL_law_500 ?_
  refine j_sld hX hx hbl hbA (6 * k + 3) (by omega) (by omega) hL9 dL_law_501 ?_
  refine j_i2l hX dL_law_502 (i32r _) ?_
  refine j_ldc2 hX k_L_19 (z := 4294967295) (by decide) dL_law_503 ?_
  refine j_land hX dL_law_506 ?_
  refine j_lor hX dL_law_507 ?_
  refine j_callV hX cv_L_45 (c_offset hL hO (i32r _) (lorZ_r _ _)) dL_law_508 h_X rfl rfl (by exact ⟨by omega, by omega⟩) (by exact ⟨by omega, by omega⟩) (by exact Nat.le_of_ble_eq_true rfl) (fun v508 h508 hp508 => ?_) rfl
  obtain ⟨rfl, hL2, hF⟩ := hp508
  obtain ⟨hM2, ho2, hd2⟩ := LI.mid hM ho hd (Fn.of hF)
  have h_M := hM2.1
  refine j_aload_n hX dL_law_511 rfl ?_
  refine j_aload_n hX dL_law_512 rfl ?_
  refine j_iload hX dL_law_513 rfl ?_
  refine j_iconst hX dL_law_515 ?_
  refine j_iadd hX dL_law_516 ?_
  refine j_sld hX hx hbl hbA (6 * k + 1) (by omega) (by omega) hL9 dL_law_517 ?_
  refine j_aload_n hX dL_law_518 rfl ?_
  refine j_iload hX dL_law_519 rfl ?_
  refine j_iconst hX dL_law_521 ?_
  refine j_iadd hX dL_law_522 ?_
  refine j_sld hX hx hbl hbA (6 * k + 2) (by omega) (by omega) hL9 dL_law_523 ?_
  refine j_i2l hX dL_law_524 (i32r _) ?_
  refine j_bipush hX dL_law_525 (by decide) ?_
  refine j_lshl hX dL_law_527 ?_
  refine j_aload_n hX dL_law_528 rfl ?_
  refine j_iload hX dL_law_529 rfl ?_
  refine j_iconst hX dL_law_531 ?_
  refine j_iadd hX dL_law_532 ?_
  refine j_sld hX hx hbl hbA (6 * k + 3) (by omega) (by omega) hL9 dL_law_533 ?_
  refine j_i2l hX dL_law_534 (i32r _) ?_
  refine j_ldc2 hX k_L_19 (z := 4294967295) (by decide) dL_law_535 ?_
  refine j_land hX dL_law_538 ?_
  refine j_lor hX dL_law_539 ?_
  refine j_callV hX cv_L_48 (c6_offset hM2 hO (i32r _) (lorZ_r _ _)) dL_law_540 h_M rfl rfl (by exact ⟨by omega, by omega⟩) (by exact ⟨by omega, by omega⟩) (by exact Nat.le_of_ble_eq_true rfl) (fun v540 h540 hp540 => ?_) rfl
  obtain ⟨rfl, sp2, tu2, hM3, hFm⟩ := hp540
  refine j_icmpS hX 870 dL_law_543 (by decide) ?_
  exact j_wide (by omega) (by omega) (next _ _ _ _ (LI.end hL2 rfl hO.pSet.2.2 ho2 hd2 hbo hM3 hFm))
set_option maxRecDepth 100000 in
set_option maxHeartbeats 4000000 in
theorem law_5 {p : Program} {l : Launch} {e : Env} {R : Room} {s : State} {m : MethodId} {args : Array Value} {below : List Frame} {meth : Method} {c : Code} {Q : State → Prop} {G : Gt} {A : Nat → Prop} {cells slots : Nat} {h : hF} {B : Nat} (hX : CX p s m args c cL_law 7 RL G B A) {b L9 : Nat} {xs : Nat → Int32} (hx : va_X b L9 xs s s.heap) (hbl : b < s.heap.size) (hbA : ¬ A b) (hRf : 18 ≤ R.frames) (hRl : 2000 ≤ R.locals) (hcs : cells + 20 ≤ R.cells ∧ slots + 200 ≤ R.slots) {bx bm bo : Nat} {A9 : Nat → Nat} {σ : St} {n m9 : Nat} (hI : LI G h bx bm bo A9 σ n m9) {k : Nat} (hk : 6 * k + 6 ≤ L9) (hL9 : L9 ≤ 3072) (next : ∀ (σ9 : St) (n9 m8 : Nat) (h9 : hF), LI G h9 bx bm bo A9 σ9 n9 m8 → J p l e R s m args below meth c Q 7 G A (cells + 20) (slots + 200) 870 (Lw b bx bm bo k) [] h9) : J p l e R s m args below meth c Q 7 G A cells slots 548 (Lw b bx bm bo k) [] h := by
  obtain ⟨AD, sp, tu, th, fo, hL, rfl, hM, hO, ho, hd, hbo⟩ := hI
  have h_X := hL.1.2.1.2
  refine j_aload_n hX dL_law_548 rfl ?_
  refine j_aload_n hX dL_law_549 rfl ?_
  refine j_iload hX dL_law_550 rfl ?_
  refine j_iconst hX dL_law_552 ?_
  refine j_iadd hX dL_law_553 ?_
  refine j_sld hX hx hbl hbA (6 * k + 1) (by omega) (by omega) hL9 dL_law_554 ?_
  refine j_callV hX cv_L_49 (c_answer hL hO (i32r _)) dL_law_555 h_X rfl rfl (by exact ⟨by omega, by omega⟩) (by exact ⟨by omega, by omega⟩) (by exact Nat.le_of_ble_eq_true rfl) (fun v555 h555 hp555 => ?_) rfl
  obtain ⟨rfl, hL2, hF⟩ := hp555
  obtain ⟨hM2, ho2, hd2⟩ := LI.mid hM ho hd (Fn.of hF)
  have h_M := hM2.1
  refine j_aload_n hX dL_law_558 rfl ?_
  refine j_aload_n hX dL_law_559 rfl ?_
  refine j_iload hX dL_law_560 rfl ?_
  refine j_iconst hX dL_law_562 ?_
  refine j_iadd hX dL_law_563 ?_
  refine j_sld hX hx hbl hbA (6 * k + 1) (by omega) (by omega) hL9 dL_law_564 ?_
  refine j_callV hX cv_L_53 (c6_answer hM2 hO (i32r _)) dL_law_565 h_M rfl rfl (by exact ⟨by omega, by omega⟩) (by exact ⟨by omega, by omega⟩) (by exact Nat.le_of_ble_eq_true rfl) (fun v565 h565 hp565 => ?_) rfl
  obtain ⟨rfl, sp2, tu2, hM3, hFm⟩ := hp565
  refine j_lcmpS hX 870 dL_law_568 dL_law_569 (by decide) ?_
  exact j_wide (by omega) (by omega) (next _ _ _ _ (LI.end hL2 rfl hO ho2 hd2 hbo hM3 hFm))
set_option maxRecDepth 100000 in
set_option maxHeartbeats 4000000 in
theorem law_6 {p : Program} {l : Launch} {e : Env} {R : Room} {s : State} {m : MethodId} {args : Array Value} {below : List Frame} {meth : Method} {c : Code} {Q : State → Prop} {G : Gt} {A : Nat → Prop} {cells slots : Nat} {h : hF} {B : Nat} (hX : CX p s m args c cL_law 7 RL G B A) {b L9 : Nat} {xs : Nat → Int32} (hx : va_X b L9 xs s s.heap) (hbl : b < s.heap.size) (hbA : ¬ A b) (hRf : 18 ≤ R.frames) (hRl : 2000 ≤ R.locals) (hcs : cells + 20 ≤ R.cells ∧ slots + 200 ≤ R.slots) {bx bm bo : Nat} {A9 : Nat → Nat} {σ : St} {n m9 : Nat} (hI : LI G h bx bm bo A9 σ n m9) {k : Nat} (hk : 6 * k + 6 ≤ L9) (hL9 : L9 ≤ 3072) (next : ∀ (σ9 : St) (n9 m8 : Nat) (h9 : hF), LI G h9 bx bm bo A9 σ9 n9 m8 → J p l e R s m args below meth c Q 7 G A (cells + 20) (slots + 200) 870 (Lw b bx bm bo k) [] h9) : J p l e R s m args below meth c Q 7 G A cells slots 574 (Lw b bx bm bo k) [] h := by
  obtain ⟨AD, sp, tu, th, fo, hL, rfl, hM, hO, ho, hd, hbo⟩ := hI
  have h_X := hL.1.2.1.2
  refine j_aload_n hX dL_law_574 rfl ?_
  refine j_aload_n hX dL_law_575 rfl ?_
  refine j_iload hX dL_law_576 rfl ?_
  refine j_iconst hX dL_law_578 ?_
  refine j_iadd hX dL_law_579 ?_
  refine j_sld hX hx hbl hbA (6 * k + 1) (by omega) (by omega) hL9 dL_law_580 ?_
  refine j_aload_n hX dL_law_581 rfl ?_
  refine j_iload hX dL_law_582 rfl ?_
  refine j_iconst hX dL_law_584 ?_
  refine j_iadd hX dL_law_585 ?_
  refine j_sld hX hx hbl hbA (6 * k + 2) (by omega) (by omega) hL9 dL_law_586 ?_
  refine j_aload_n hX dL_law_587 rfl ?_
  refine j_iload hX dL_law_588 rfl ?_
  refine j_iconst hX dL_law_590 ?_
  refine j_iadd hX dL_law_591 ?_
  refine j_sld hX hx hbl hbA (6 * k + 3) (by omega) (by omega) hL9 dL_law_592 ?_
  refine j_callV hX cv_L_54 (c_reason hL hO (i32r _) (i32r _) (i32r _)) dL_law_593 h_X rfl rfl (by exact ⟨by omega, by omega⟩) (by exact ⟨by omega, by omega⟩) (by exact Nat.le_of_ble_eq_true rfl) (fun v593 h593 hp593 => ?_) rfl
  obtain ⟨rfl, hL2, hF⟩ := hp593
  obtain ⟨hM2, ho2, hd2⟩ := LI.mid hM ho hd (Fn.of hF)
  have h_M := hM2.1
  refine j_aload_n hX dL_law_596 rfl ?_
  refine j_aload_n hX dL_law_597 rfl ?_
  refine j_iload hX dL_law_598 rfl ?_
  refine j_iconst hX dL_law_600 ?_
  refine j_iadd hX dL_law_601 ?_
  refine j_sld hX hx hbl hbA (6 * k + 1) (by omega) (by omega) hL9 dL_law_602 ?_
  refine j_aload_n hX dL_law_603 rfl ?_
  refine j_iload hX dL_law_604 rfl ?_
  refine j_iconst hX dL_law_606 ?_
  refine j_iadd hX dL_law_607 ?_
  refine j_sld hX hx hbl hbA (6 * k + 2) (by omega) (by omega) hL9 dL_law_608 ?_
  refine j_aload_n hX dL_law_609 rfl ?_
  refine j_iload hX dL_law_610 rfl ?_
  refine j_iconst hX dL_law_612 ?_
  refine j_iadd hX dL_law_613 ?_
  refine j_sld hX hx hbl hbA (6 * k + 3) (by omega) (by omega) hL9 dL_law_614 ?_
  refine j_callV hX cv_L_58 (c6_reason hM2 hO (i32r _) (i32r _) (i32r _)) dL_law_615 h_M rfl rfl (by exact ⟨by omega, by omega⟩) (by exact ⟨by omega, by omega⟩) (by exact Nat.le_of_ble_eq_true rfl) (fun v615 h615 hp615 => ?_) rfl
  obtain ⟨rfl, sp2, tu2, hM3, hFm⟩ := hp615
  refine j_icmpS hX 870 dL_law_618 (by decide) ?_
  exact j_wide (by omega) (by omega) (next _ _ _ _ (LI.end hL2 rfl hO ho2 hd2 hbo hM3 hFm))
set_option maxRecDepth 100000 in
set_option maxHeartbeats 4000000 in
theorem law_7 {p : Program} {l : Launch} {e : Env} {R : Room} {s : State} {m : MethodId} {args : Array Value} {below : List Frame} {meth : Method} {c : Code} {Q : State → Prop} {G : Gt} {A : Nat → Prop} {cells slots : Nat} {h : hF} {B : Nat} (hX : CX p s m args c cL_law 7 RL G B A) {b L9 : Nat} {xs : Nat → Int32} (hx : va_X b L9 xs s s.heap) (hbl : b < s.heap.size) (hbA : ¬ A b) (hRf : 18 ≤ R.frames) (hRl : 2000 ≤ R.locals) (hcs : cells + 20 ≤ R.cells ∧ slots + 200 ≤ R.slots) {bx bm bo : Nat} {A9 : Nat → Nat} {σ : St} {n m9 : Nat} (hI : LI G h bx bm bo A9 σ n m9) {k : Nat} (hk : 6 * k + 6 ≤ L9) (hL9 : L9 ≤ 3072) (next : ∀ (σ9 : St) (n9 m8 : Nat) (h9 : hF), LI G h9 bx bm bo A9 σ9 n9 m8 → J p l e R s m args below meth c Q 7 G A (cells + 20) (slots + 200) 870 (Lw b bx bm bo k) [] h9) : J p l e R s m args below meth c Q 7 G A cells slots 623 (Lw b bx bm bo k) [] h := by
  obtain ⟨AD, sp, tu, th, fo, hL, rfl, hM, hO, ho, hd, hbo⟩ := hI
  have h_X := hL.1.2.1.2
  refine j_aload_n hX dL_law_623 rfl ?_
  refine j_aload_n hX dL_law_624 rfl ?_
  refine j_iload hX dL_law_625 rfl ?_
  refine j_iconst hX dL_law_627 ?_
  refine j_iadd hX dL_law_628 ?_
  refine j_sld hX hx hbl hbA (6 * k + 1) (by omega) (by omega) hL9 dL_law_629 ?_
  refine j_callV hX cv_L_59 (c_longer hL hO (i32r _)) dL_law_630 h_X rfl rfl (by exact ⟨by omega, by omega⟩) (by exact ⟨by omega, by omega⟩) (by exact Nat.le_of_ble_eq_true rfl) (fun v630 h630 hp630 => ?_) rfl
  obtain ⟨rfl, hL2, hF⟩ := hp630
  obtain ⟨hM2, ho2, hd2⟩ := LI.mid hM ho hd (Fn.of hF)
  have h_M := hM2.1
  refine j_aload_n hX dL_law_633 rfl ?_
  refine j_aload_n hX dL_law_634 rfl ?_
  refine j_iload hX dL_law_635 rfl ?_
  refine j_iconst hX dL_law_637 ?_
  refine j_iadd hX dL_law_638 ?_
  refine j_sld hX hx hbl hbA (6 * k + 1) (by omega) (by omega) hL9 dL_law_639 ?_
  refine j_callV hX cv_L_62 (c6_longer hM2 hO (i32r _)) dL_law_640 h_M rfl rfl (by exact ⟨by omega, by omega⟩) (by exact ⟨by omega, by omega⟩) (by exact Nat.le_of_ble_eq_true rfl) (fun v640 h640 hp640 => ?_) rfl
  obtain ⟨rfl, sp2, tu2, hM3, hFm⟩ := hp640
  refine j_lcmpS hX 870 dL_law_643 dL_law_644 (by decide) ?_
  exact j_wide (by omega) (by omega) (next _ _ _ _ (LI.end hL2 rfl hO ho2 hd2 hbo hM3 hFm))
set_option maxRecDepth 100000 in
set_option maxHeartbeats 4000000 in
theorem law_8 {p : Program} {l : Launch} {e : Env} {R : Room} {s : State} {m : MethodId} {args : Array Value} {below : List Frame} {meth : Method} {c : Code} {Q : State → Prop} {G : Gt} {A : Nat → Prop} {cells slots : Nat} {h : hF} {B : Nat} (hX : CX p s m args c cL_law 7 RL G B A) {b L9 : Nat} {xs : Nat → Int32} (hx : va_X b L9 xs s s.heap) (hbl : b < s.heap.size) (hbA : ¬ A b) (hRf : 18 ≤ R.frames) (hRl : 2000 ≤ R.locals) (hcs : cells + 20 ≤ R.cells ∧ slots + 200 ≤ R.slots) {bx bm bo : Nat} {A9 : Nat → Nat} {σ : St} {n m9 : Nat} (hI : LI G h bx bm bo A9 σ n m9) {k : Nat} (hk : 6 * k + 6 ≤ L9) (hL9 : L9 ≤ 3072) (next : ∀ (σ9 : St) (n9 m8 : Nat) (h9 : hF), LI G h9 bx bm bo A9 σ9 n9 m8 → J p l e R s m args below meth c Q 7 G A (cells + 20) (slots + 200) 870 (Lw b bx bm bo k) [] h9) : J p l e R s m args below meth c Q 7 G A cells slots 649 (Lw b bx bm bo k) [] h := by
  obtain ⟨AD, sp, tu, th, fo, hL, rfl, hM, hO, ho, hd, hbo⟩ := hI
  have h_X := hL.1.2.1.2
  refine j_aload_n hX dL_law_649 rfl ?_
  refine j_aload_n hX dL_law_650 rfl ?_
  refine j_iload hX dL_law_651 rfl ?_
  refine j_iconst hX dL_law_653 ?_
  refine j_iadd hX dL_law_654 ?_
  refine j_sld hX hx hbl hbA (6 * k + 1) (by omega) (by omega) hL9 dL_law_655 ?_
  refine j_callV hX cv_L_63 (c_busy hL hO (i32r _)) dL_law_656 h_X rfl rfl (by exact ⟨by omega, by omega⟩) (by exact ⟨by omega, by omega⟩) (by exact Nat.le_of_ble_eq_true rfl) (fun v656 h656 hp656 => ?_) rfl
  obtain ⟨rfl, hL2, hF⟩ := hp656
  obtain ⟨hM2, ho2, hd2⟩ := LI.mid hM ho hd (Fn.of hF)
  have h_M := hM2.1
  refine j_aload_n hX dL_law_659 rfl ?_
  refine j_aload_n hX dL_law_660 rfl ?_
  refine j_iload hX dL_law_661 rfl ?_
  refine j_iconst hX dL_law_663 ?_
  refine j_iadd hX dL_law_664 ?_
  refine j_sld hX hx hbl hbA (6 * k + 1) (by omega) (by omega) hL9 dL_law_665 ?_
  refine j_callV hX cv_L_66 (c6_busy hM2 hO (i32r _)) dL_law_666 h_M rfl rfl (by exact ⟨by omega, by omega⟩) (by exact ⟨by omega, by omega⟩) (by exact Nat.le_of_ble_eq_true rfl) (fun v666 h666 hp666 => ?_) rfl
  obtain ⟨rfl, sp2, tu2, hM3, hFm⟩ := hp666
  refine j_lcmpS hX 870 dL_law_669 dL_law_670 (by decide) ?_
  exact j_wide (by omega) (by omega) (next _ _ _ _ (LI.end hL2 rfl hO ho2 hd2 hbo hM3 hFm))
set_option maxRecDepth 100000 in
set_option maxHeartbeats 4000000 in
theorem law_9 {p : Program} {l : Launch} {e : Env} {R : Room} {s : State} {m : MethodId} {args : Array Value} {below : List Frame} {meth : Method} {c : Code} {Q : State → Prop} {G : Gt} {A : Nat → Prop} {cells slots : Nat} {h : hF} {B : Nat} (hX : CX p s m args c cL_law 7 RL G B A) {b L9 : Nat} {xs : Nat → Int32} (hx : va_X b L9 xs s s.heap) (hbl : b < s.heap.size) (hbA : ¬ A b) (hRf : 18 ≤ R.frames) (hRl : 2000 ≤ R.locals) (hcs : cells + 20 ≤ R.cells ∧ slots + 200 ≤ R.slots) {bx bm bo : Nat} {A9 : Nat → Nat} {σ : St} {n m9 : Nat} (hI : LI G h bx bm bo A9 σ n m9) {k : Nat} (hk : 6 * k + 6 ≤ L9) (hL9 : L9 ≤ 3072) (next : ∀ (σ9 : St) (n9 m8 : Nat) (h9 : hF), LI G h9 bx bm bo A9 σ9 n9 m8 → J p l e R s m args below meth c Q 7 G A (cells + 20) (slots + 200) 870 (Lw b bx bm bo k) [] h9) : J p l e R s m args below meth c Q 7 G A cells slots 675 (Lw b bx bm bo k) [] h := by
  obtain ⟨AD, sp, tu, th, fo, hL, rfl, hM, hO, ho, hd, hbo⟩ := hI
  have h_X := hL.1.2.1.2
  refine j_aload_n hX dL_law_675 rfl ?_
  refine j_aload_n hX dL_law_676 rfl ?_
  refine j_iload hX dL_law_677 rfl ?_
  refine j_iconst hX dL_law_679 ?_
  refine j_iadd hX dL_law_680 ?_
  refine j_sld hX hx hbl hbA (6 * k + 1) (by omega) (by omega) hL9 dL_law_681 ?_
  refine j_callV hX cv_L_67 (c_plain hL hO (i32r _)) dL_law_682 h_X rfl rfl (by exact ⟨by omega, by omega⟩) (by exact ⟨by omega, by omega⟩) (by exact Nat.le_of_ble_eq_true rfl) (fun v682 h682 hp682 => ?_) rfl
  obtain ⟨⟨y1, rfl, hy1⟩, hL2, hF⟩ := hp682
  obtain ⟨hM2, ho2, hd2⟩ := LI.mid hM ho hd (Fn.of hF)
  have h_M := hM2.1
  refine j_aload_n hX dL_law_685 rfl ?_
  refine j_aload_n hX dL_law_686 rfl ?_
  refine j_iload hX dL_law_687 rfl ?_
  refine j_iconst hX dL_law_689 ?_
  refine j_iadd hX dL_law_690 ?_
  refine j_sld hX hx hbl hbA (6 * k + 1) (by omega) (by omega) hL9 dL_law_691 ?_
  refine j_callV hX cv_L_71 (c6_plain hM2 hO (i32r _)) dL_law_692 h_M rfl rfl (by exact ⟨by omega, by omega⟩) (by exact ⟨by omega, by omega⟩) (by exact Nat.le_of_ble_eq_true rfl) (fun v692 h692 hp692 => ?_) rfl
  obtain ⟨⟨y2, rfl, hy2⟩, sp2, tu2, hM3, hFm⟩ := hp692
  obtain rfl := flg.uniq hy1 hy2
  refine j_icmpS hX 870 dL_law_695 (by decide) ?_
  exact j_wide (by omega) (by omega) (next _ _ _ _ (LI.end hL2 rfl hO ho2 hd2 hbo hM3 hFm))
set_option maxRecDepth 100000 in
set_option maxHeartbeats 4000000 in
theorem law_10 {p : Program} {l : Launch} {e : Env} {R : Room} {s : State} {m : MethodId} {args : Array Value} {below : List Frame} {meth : Method} {c : Code} {Q : State → Prop} {G : Gt} {A : Nat → Prop} {cells slots : Nat} {h : hF} {B : Nat} (hX : CX p s m args c cL_law 7 RL G B A) {b L9 : Nat} {xs : Nat → Int32} (hx : va_X b L9 xs s s.heap) (hbl : b < s.heap.size) (hbA : ¬ A b) (hRf : 18 ≤ R.frames) (hRl : 2000 ≤ R.locals) (hcs : cells + 20 ≤ R.cells ∧ slots + 200 ≤ R.slots) {bx bm bo : Nat} {A9 : Nat → Nat} {σ : St} {n m9 : Nat} (hI : LI G h bx bm bo A9 σ n m9) {k : Nat} (hk : 6 * k + 6 ≤ L9) (hL9 : L9 ≤ 3072) (next : ∀ (σ9 : St) (n9 m8 : Nat) (h9 : hF), LI G h9 bx bm bo A9 σ9 n9 m8 → J p l e R s m args below meth c Q 7 G A (cells + 20) (slots + 200) 870 (Lw b bx bm bo k) [] h9) : J p l e R s m args below meth c Q 7 G A cells slots 700 (Lw b bx bm bo k) [] h := by
  obtain ⟨AD, sp, tu, th, fo, hL, rfl, hM, hO, ho, hd, hbo⟩ := hI
  have h_X := hL.1.2.1.2
  refine j_aload_n hX dL_law_700 rfl ?_
  refine j_aload_n hX dL_law_701 rfl ?_
  refine j_iload hX dL_law_702 rfl ?_
  refine j_iconst hX dL_law_704 ?_
  refine j_iadd hX dL_law_705 ?_
  refine j_sld hX hx hbl hbA (6 * k + 1) (by omega) (by omega) hL9 dL_law_706 ?_
  refine j_i2l hX dL_law_707 (i32r _) ?_
  refine j_bipush hX dL_law_708 (by decide) ?_
  refine j_lshl hX dL_law_710 ?_
  refine j_aload_n hX dL_law_711 rfl ?_
  refine j_iload hX dL_law_712 rfl ?_
  refine j_iconst hX dL_law_714 ?_
  refine j_iadd hX dL_law_715 ?_
  refine j_sld hX hx hbl hbA (6 * k + 2) (by omega) (by omega) hL9 dL_law_716 ?_
  refine j_i2l hX dL_law_717 (i32r _) ?_
  refine j_ldc2 hX k_L_19 (z := 4294967295) (by decide) dL_law_718 ?_
  refine j_land hX dL_law_721 ?_
  refine j_lor hX dL_law_722 ?_
  refine j_aload_n hX dL_law_723 rfl ?_
  refine j_iload hX dL_law_724 rfl ?_
  refine j_iconst hX dL_law_726 ?_
  refine j_iadd hX dL_law_727 ?_
  refine j_sld hX hx hbl hbA (6 * k + 3) (by omega) (by omega) hL9 dL_law_728 ?_
  refine j_i2l hX dL_law_729 (i32r _) ?_
  refine j_bipush hX dL_law_730 (by decide) ?_
  refine j_lshl hX dL_law_732 ?_
  refine j_aload_n hX dL_law_733 rfl ?_
  refine j_iload hX dL_law_734 rfl ?_
  refine j_iconst hX dL_law_736 ?_
  refine j_iadd hX dL_law_737 ?_
  refine j_sld hX hx hbl hbA (6 * k + 4) (by omega) (by omega) hL9 dL_law_738 ?_
  refine j_i2l hX dL_law_739 (i32r _) ?_
  refine j_ldc2 hX k_L_19 (z := 4294967295) (by decide) dL_law_740 ?_
  refine j_land hX dL_law_743 ?_
  refine j_lor hX dL_law_744 ?_
  refine j_callV hX cv_L_72 (c_interrupt hL hO (lorZ_r _ _) (lorZ_r _ _)) dL_law_745 h_X rfl rfl (by exact ⟨by omega, by omega⟩) (by exact ⟨by omega, by omega⟩) (by exact Nat.le_of_ble_eq_true rfl) (fun v745 h745 hp745 => ?_) rfl
  obtain ⟨rfl, AD2, hL2, hF, e15⟩ := hp745
  obtain ⟨hM2, ho2, hd2⟩ := LI.mid hM ho hd hF
  have h_M := hM2.1
  refine j_aload_n hX dL_law_748 rfl ?_
  refine j_aload_n hX dL_law_749 rfl ?_
  refine j_iload hX dL_law_750 rfl ?_
  refine j_iconst hX dL_law_752 ?_
  refine j_iadd hX dL_law_753 ?_
  refine j_sld hX hx hbl hbA (6 * k + 1) (by omega) (by omega) hL9 dL_law_754 ?_
  refine j_i2l hX dL_law_755 (i32r _) ?_
  refine j_bipush hX dL_law_756 (by decide) ?_
  refine j_lshl hX dL_law_758 ?_
  refine j_aload_n hX dL_law_759 rfl ?_
  refine j_iload hX dL_law_760 rfl ?_
  refine j_iconst hX dL_law_762 ?_
  refine j_iadd hX dL_law_763 ?_
  refine j_sld hX hx hbl hbA (6 * k + 2) (by omega) (by omega) hL9 dL_law_764 ?_
  refine j_i2l hX dL_law_765 (i32r _) ?_
  refine j_ldc2 hX k_L_19 (z := 4294967295) (by decide) dL_law_766 ?_
  refine j_land hX dL_law_769 ?_
  refine j_lor hX dL_law_770 ?_
  refine j_aload_n hX dL_law_771 rfl ?_
  refine j_iload hX dL_law_772 rfl ?_
  refine j_iconst hX dL_law_774 ?_
  refine j_iadd hX dL_law_775 ?_
  refine j_sld hX hx hbl hbA (6 * k + 3) (by omega) (by omega) hL9 dL_law_776 ?_
  refine j_i2l hX dL_law_777 (i32r _) ?_
  refine j_bipush hX dL_law_778 (by decide) ?_
  refine j_lshl hX dL_law_780 ?_
  refine j_aload_n hX dL_law_781 rfl ?_
  refine j_iload hX dL_law_782 rfl ?_
  refine j_iconst hX dL_law_784 ?_
  refine j_iadd hX dL_law_785 ?_
  refine j_sld hX hx hbl hbA (6 * k + 4) (by omega) (by omega) hL9 dL_law_786 ?_
  refine j_i2l hX dL_law_787 (i32r _) ?_
  refine j_ldc2 hX k_L_19 (z := 4294967295) (by decide) dL_law_788 ?_
  refine j_land hX dL_law_791 ?_
  refine j_lor hX dL_law_792 ?_
  refine j_callV hX cv_L_76 (c6_interrupt hM2 hO (lorZ_r _ _) (lorZ_r _ _)) dL_law_793 h_M rfl rfl (by exact ⟨by omega, by omega⟩) (by exact ⟨by omega, by omega⟩) (by exact Nat.le_of_ble_eq_true rfl) (fun v793 h793 hp793 => ?_) rfl
  obtain ⟨rfl, sp2, tu2, hM3, hFm⟩ := hp793
  refine j_icmpS hX 870 dL_law_796 (by decide) ?_
  exact j_wide (by omega) (by omega) (next _ _ _ _ (LI.end hL2 e15 hO.pInt ho2 hd2 hbo hM3 hFm))
set_option maxRecDepth 100000 in
set_option maxHeartbeats 4000000 in
theorem law_11 {p : Program} {l : Launch} {e : Env} {R : Room} {s : State} {m : MethodId} {args : Array Value} {below : List Frame} {meth : Method} {c : Code} {Q : State → Prop} {G : Gt} {A : Nat → Prop} {cells slots : Nat} {h : hF} {B : Nat} (hX : CX p s m args c cL_law 7 RL G B A) {b L9 : Nat} {xs : Nat → Int32} (hx : va_X b L9 xs s s.heap) (hbl : b < s.heap.size) (hbA : ¬ A b) (hRf : 18 ≤ R.frames) (hRl : 2000 ≤ R.locals) (hcs : cells + 20 ≤ R.cells ∧ slots + 200 ≤ R.slots) {bx bm bo : Nat} {A9 : Nat → Nat} {σ : St} {n m9 : Nat} (hI : LI G h bx bm bo A9 σ n m9) {k : Nat} (hk : 6 * k + 6 ≤ L9) (hL9 : L9 ≤ 3072) (next : ∀ (σ9 : St) (n9 m8 : Nat) (h9 : hF), LI G h9 bx bm bo A9 σ9 n9 m8 → J p l e R s m args below meth c Q 7 G A (cells + 20) (slots + 200) 870 (Lw b bx bm bo k) [] h9) : J p l e R s m args below meth c Q 7 G A cells slots 801 (Lw b bx bm bo k) [] h := by
  obtain ⟨AD, sp, tu, th, fo, hL, rfl, hM, hO, ho, hd, hbo⟩ := hI
  have h_X := hL.1.2.1.2
  refine j_aload_n hX dL_law_801 rfl ?_
  refine j_aload_n hX dL_law_802 rfl ?_
  refine j_iload hX dL_law_803 rfl ?_
  refine j_iconst hX dL_law_805 ?_
  refine j_iadd hX dL_law_806 ?_
  refine j_sld hX hx hbl hbA (6 * k + 1) (by omega) (by omega) hL9 dL_law_807 ?_
  refine j_aload_n hX dL_law_808 rfl ?_
  refine j_iload hX dL_law_809 rfl ?_
  refine j_iconst hX dL_law_811 ?_
  refine j_iadd hX dL_law_812 ?_
  refine j_sld hX hx hbl hbA (6 * k + 2) (by omega) (by omega) hL9 dL_law_813 ?_
  refine j_i2l hX dL_law_814 (i32r _) ?_
  refine j_bipush hX dL_law_815 (by decide) ?_
  refine j_lshl hX dL_law_817 ?_
  refine j_aload_n hX dL_law_818 rfl ?_
  refine j_iload hX dL_law_819 rfl ?_
  refine j_iconst hX dL_law_821 ?_
  refine j_iadd hX dL_law_822 ?_
  refine j_sld hX hx hbl hbA (6 * k + 3) (by omega) (by omega) hL9 dL_law_823 ?_
  refine j_i2l hX dL_law_824 (i32r _) ?_
  refine j_ldc2 hX k_L_19 (z := 4294967295) (by decide) dL_law_825 ?_
  refine j_land hX dL_law_828 ?_
  refine j_lor hX dL_law_829 ?_
  refine j_callV hX cv_L_77 (c_spin hL hO (i32r _) (lorZ_r _ _)) dL_law_830 h_X rfl rfl (by exact ⟨by omega, by omega⟩) (by exact ⟨by omega, by omega⟩) (by exact Nat.le_of_ble_eq_true rfl) (fun v830 h830 hp830 => ?_) rfl
  obtain ⟨rfl, hL2, hF⟩ := hp830
  obtain ⟨hM2, ho2, hd2⟩ := LI.mid hM ho hd (Fn.of hF)
  have h_M := hM2.1
  refine j_aload_n hX dL_law_833 rfl ?_
  refine j_aload_n hX dL_law_834 rfl ?_
  refine j_iload hX dL_law_835 rfl ?_
  refine j_iconst hX dL_law_837 ?_
  refine j_iadd hX dL_law_838 ?_
  refine j_sld hX hx hbl hbA (6 * k + 1) (by omega) (by omega) hL9 dL_law_839 ?_
  refine j_aload_n hX dL_law_840 rfl ?_
  refine j_iload hX dL_law_841 rfl ?_
  refine j_iconst hX dL_law_843 ?_
  refine j_iadd hX dL_law_844 ?_
  refine j_sld hX hx hbl hbA (6 * k + 2) (by omega) (by omega) hL9 dL_law_845 ?_
  refine j_i2l hX dL_law_846 (i32r _) ?_
  refine j_bipush hX dL_law_847 (by decide) ?_
  refine j_lshl hX dL_law_849 ?_
  refine j_aload_n hX dL_law_850 rfl ?_
  refine j_iload hX dL_law_851 rfl ?_
  refine j_iconst hX dL_law_853 ?_
  refine j_iadd hX dL_law_854 ?_
  refine j_sld hX hx hbl hbA (6 * k + 3) (by omega) (by omega) hL9 dL_law_855 ?_
  refine j_i2l hX dL_law_856 (i32r _) ?_
  refine j_ldc2 hX k_L_19 (z := 4294967295) (by decide) dL_law_857 ?_
  refine j_land hX dL_law_860 ?_
  refine j_lor hX dL_law_861 ?_
  refine j_callV hX cv_L_80 (c6_spin hM2 hO (i32r _) (lorZ_r _ _)) dL_law_862 h_M rfl rfl (by exact ⟨by omega, by omega⟩) (by exact ⟨by omega, by omega⟩) (by exact Nat.le_of_ble_eq_true rfl) (fun v862 h862 hp862 => ?_) rfl
  obtain ⟨rfl, sp2, tu2, hM3, hFm⟩ := hp862
  refine j_icmpS hX 870 dL_law_865 (by decide) ?_
  exact j_wide (by omega) (by omega) (next _ _ _ _ (LI.end hL2 rfl hO.pSet.2.1 ho2 hd2 hbo hM3 hFm))
