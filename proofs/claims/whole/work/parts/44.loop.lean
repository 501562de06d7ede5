/-! THE LAW: its first case, its loop -/
theorem tskH_r (n : Nat) (x y r : Int) : -2147483648 ≤ tskH n x y r ∧ tskH n x y r < 2147483648 := by
  unfold tskH; split <;> omega
set_option maxRecDepth 100000 in
set_option maxHeartbeats 4000000 in
theorem law_0 {p : Program} {l : Launch} {e : Env} {R : Room} {s : State} {m : MethodId} {args : Array Value} {below : List Frame} {meth : Method} {c : Code} {Q : State → Prop} {G : Gt} {A : Nat → Prop} {cells slots : Nat} {h : hF} {B : Nat} (hX : CX p s m args c cL_law 7 RL G B A) {b L9 : Nat} {xs : Nat → Int32} (hx : va_X b L9 xs s s.heap) (hbl : b < s.heap.size) (hbA : ¬ A b) (hRf : 18 ≤ R.frames) (hRl : 2000 ≤ R.locals) (hcs : cells + 20 ≤ R.cells ∧ slots + 200 ≤ R.slots) {sa : Nat} (hT : TX B sa s s.heap) (hflags : l.stackTraces = false) {bx bm bo : Nat} {A9 : Nat → Nat} {σ : St} {n m9 : Nat} (hI : LI G h bx bm bo A9 σ n m9) {k : Nat} (hk : 6 * k + 6 ≤ L9) (hL9 : L9 ≤ 3072) (next : ∀ (σ9 : St) (n9 m8 : Nat) (h9 : hF), LI G h9 bx bm bo A9 σ9 n9 m8 → J p l e R s m args below meth c Q 7 G A (cells + 20) (slots + 200) 870 (Lw b bx bm bo k) [] h9) : J p l e R s m args below meth c Q 7 G A cells slots 104 (Lw b bx bm bo k) [] h := by
  obtain ⟨AD, sp, tu, th, fo, hL, rfl, hM, hO, ho, hd, hbo⟩ := hI
  have h_X := hL.1.2.1.2
  refine j_aload_n hX dL_law_104 rfl ?_
  refine j_aload_n hX dL_law_105 rfl ?_
  refine j_iload hX dL_law_106 rfl ?_
  refine j_iconst hX dL_law_108 ?_
  refine j_iadd hX dL_law_109 ?_
  refine j_sld hX hx hbl hbA (6 * k + 1) (by omega) (by omega) hL9 dL_law_110 ?_
  refine j_i2l hX dL_law_111 (i32r _) ?_
  refine j_bipush hX dL_law_112 (by decide) ?_
  refine j_lshl hX dL_law_114 ?_
  refine j_aload_n hX dL_law_115 rfl ?_
  refine j_iload hX dL_law_116 rfl ?_
  refine j_iconst hX dL_law_118 ?_
  refine j_iadd hX dL_law_119 ?_
  refine j_sld hX hx hbl hbA (6 * k + 2) (by omega) (by omega) hL9 dL_law_120 ?_
  refine j_i2l hX dL_law_121 (i32r _) ?_
  refine j_ldc2 hX k_L_19 (z := 4294967295) (by decide) dL_law_122 ?_
  refine j_land hX dL_law_125 ?_
  refine j_lor hX dL_law_126 ?_
  refine j_aload_n hX dL_law_127 rfl ?_
  refine j_iload hX dL_law_128 rfl ?_
  refine j_iconst hX dL_law_130 ?_
  refine j_iadd hX dL_law_131 ?_
  refine j_sld hX hx hbl hbA (6 * k + 3) (by omega) (by omega) hL9 dL_law_132 ?_
  refine j_i2l hX dL_law_133 (i32r _) ?_
  refine j_bipush hX dL_law_134 (by decide) ?_
  refine j_lshl hX dL_law_136 ?_
  refine j_aload_n hX dL_law_137 rfl ?_
  refine j_iload hX dL_law_138 rfl ?_
  refine j_iconst hX dL_law_140 ?_
  refine j_iadd hX dL_law_141 ?_
  refine j_sld hX hx hbl hbA (6 * k + 4) (by omega) (by omega) hL9 dL_law_142 ?_
  refine j_i2l hX dL_law_143 (i32r _) ?_
  refine j_ldc2 hX k_L_19 (z := 4294967295) (by decide) dL_law_144 ?_
  refine j_land hX dL_law_147 ?_
  refine j_lor hX dL_law_148 ?_
  refine j_aload_n hX dL_law_149 rfl ?_
  refine j_iload hX dL_law_150 rfl ?_
  refine j_iconst hX dL_law_152 ?_
  refine j_iadd hX dL_law_153 ?_
  refine j_sld hX hx hbl hbA (6 * k + 5) (by omega) (by omega) hL9 dL_law_154 ?_
  refine j_aload_n hX dL_law_155 rfl ?_
  refine j_callST hX hT (l_task (B := B) hL hO (lorZ_r _ _) (lorZ_r _ _) (i32r _) ho (fun k hk => (hd k hk).2.1) hflags sa) dL_law_156 rfl (by exact ⟨by omega, by omega⟩) (by exact ⟨by omega, by omega⟩) (by exact Nat.le_of_ble_eq_true rfl) (fun v156 h156 hp156 => ?_) rfl
  obtain ⟨rfl, h1, AD2, fo2, hL2, hF, e15, rfl, hfo⟩ := hp156
  obtain ⟨hM1, ho1, hd2⟩ := LI.mid hM ho hd hF
  have hO2 := hO.pTsk (x := lorZ (shlZ (xs (6 * k + 1)).toInt 32) (landZ (xs (6 * k + 2)).toInt 4294967295)) (y := lorZ (shlZ (xs (6 * k + 3)).toInt 32) (landZ (xs (6 * k + 4)).toInt 4294967295)) (r := (xs (6 * k + 5)).toInt)
  have hL3 := hL2.keep (h' := hup h1 bo (gJ G 1 fo2)) hO2.1 (fun k hk => hup_ne (hd2 k hk).2.1)
  have hM2 := hM1.keep (h' := hup h1 bo (gJ G 1 fo2)) (hup_ne hbo.1.symm) (fun k hk => hup_ne (hbo.2 k hk).symm)
  have h_M := hM2.1
  refine j_istore hX dL_law_159 (by decide) ?_
  refine j_aload_n hX dL_law_161 rfl ?_
  refine j_aload_n hX dL_law_162 rfl ?_
  refine j_iload hX dL_law_163 rfl ?_
  refine j_iconst hX dL_law_165 ?_
  refine j_iadd hX dL_law_166 ?_
  refine j_sld hX hx hbl hbA (6 * k + 1) (by omega) (by omega) hL9 dL_law_167 ?_
  refine j_i2l hX dL_law_168 (i32r _) ?_
  refine j_bipush hX dL_law_169 (by decide) ?_
  refine j_lshl hX dL_law_171 ?_
  refine j_aload_n hX dL_law_172 rfl ?_
  refine j_iload hX dL_law_173 rfl ?_
  refine j_iconst hX dL_law_175 ?_
  refine j_iadd hX dL_law_176 ?_
  refine j_sld hX hx hbl hbA (6 * k + 2) (by omega) (by omega) hL9 dL_law_177 ?_
  refine j_i2l hX dL_law_178 (i32r _) ?_
  refine j_ldc2 hX k_L_19 (z := 4294967295) (by decide) dL_law_179 ?_
  refine j_land hX dL_law_182 ?_
  refine j_lor hX dL_law_183 ?_
  refine j_aload_n hX dL_law_184 rfl ?_
  refine j_iload hX dL_law_185 rfl ?_
  refine j_iconst hX dL_law_187 ?_
  refine j_iadd hX dL_law_188 ?_
  refine j_sld hX hx hbl hbA (6 * k + 3) (by omega) (by omega) hL9 dL_law_189 ?_
  refine j_i2l hX dL_law_190 (i32r _) ?_
  refine j_bipush hX dL_law_191 (by decide) ?_
  refine j_lshl hX dL_law_193 ?_
  refine j_aload_n hX dL_law_194 rfl ?_
  refine j_iload hX dL_law_195 rfl ?_
  refine j_iconst hX dL_law_197 ?_
  refine j_iadd hX dL_law_198 ?_
  refine j_sld hX hx hbl hbA (6 * k + 4) (by omega) (by omega) hL9 dL_law_199 ?_
  refine j_i2l hX dL_law_200 (i32r _) ?_
  refine j_ldc2 hX k_L_19 (z := 4294967295) (by decide) dL_law_201 ?_
  refine j_land hX dL_law_204 ?_
  refine j_lor hX dL_law_205 ?_
  refine j_aload_n hX dL_law_206 rfl ?_
  refine j_iload hX dL_law_207 rfl ?_
  refine j_iconst hX dL_law_209 ?_
  refine j_iadd hX dL_law_210 ?_
  refine j_sld hX hx hbl hbA (6 * k + 5) (by omega) (by omega) hL9 dL_law_211 ?_
  refine j_callV hX cv_L_26 (c6_task hM2 hO (lorZ_r _ _) (lorZ_r _ _) (i32r _)) dL_law_212 h_M rfl rfl (by exact ⟨by omega, by omega⟩) (by exact ⟨by omega, by omega⟩) (by exact Nat.le_of_ble_eq_true rfl) (fun v212 h212 hp212 => ?_) rfl
  obtain ⟨rfl, sp2, tu2, hM3, hFm⟩ := hp212
  have h_M := hM3.1
  have h_Q : h212 bo = some (gJ G 1 fo2) := (hFm bo hbo.1 hbo.2).trans (hup_eq _ _ _)
  refine j_istore hX dL_law_215 (by decide) ?_
  refine j_aload_n hX dL_law_217 rfl ?_
  refine j_callV hX cv_L_27 (c6_thrown hM3) dL_law_218 h_M rfl rfl (by exact ⟨by omega, by omega⟩) (by exact ⟨by omega, by omega⟩) (by exact Nat.le_of_ble_eq_true rfl) (fun v218 h218 hp218 => ?_) rfl
  obtain ⟨rfl, rfl⟩ := hp218
  refine j_iload hX dL_law_221 rfl ?_
  refine j_icmpS hX 228 dL_law_223 (by decide) ?_
  refine j_iload hX dL_law_228 rfl ?_
  refine j_if_ne hX 245 dL_law_230 (by decide) (tskH_r _ _ _ _) (fun c230 => ?_) (fun c230 => ?_)
  · refine j_goto hX 870 dL_law_245 (by decide) ?_
    exact j_at (L' := Lw b (AD 15) bm bo k) (j_wide (by omega) (by omega) (next _ _ _ _ (LI.end hL3 e15 hO2 (hup_eq _ _ _) hd2 hbo hM3 hFm))) ⟨rfl, rfl, rfl, rfl, rfl, trivial⟩
  · refine j_aload_n hX dL_law_233 rfl ?_
    refine j_iconst hX dL_law_234 ?_
    refine j_laldN hX 0 rfl dL_law_235 h_Q (by omega) (by omega) ?_
    rw [hfo c230]
    refine j_iload hX dL_law_236 rfl ?_
    refine j_i2l hX dL_law_238 (tskR_r hO.1 _ _ _) ?_
    refine j_lcmpS hX 245 dL_law_239 dL_law_240 (by decide) ?_
    refine j_goto hX 870 dL_law_245 (by decide) ?_
    exact j_at (L' := Lw b (AD 15) bm bo k) (j_wide (by omega) (by omega) (next _ _ _ _ (LI.end hL3 e15 hO2 (hup_eq _ _ _) hd2 hbo hM3 hFm))) ⟨rfl, rfl, rfl, rfl, rfl, trivial⟩
set_option maxRecDepth 100000 in
set_option maxHeartbeats 4000000 in
theorem law_loop {p : Program} {l : Launch} {e : Env} {R : Room} {s : State} {m : MethodId} {args : Array Value} {below : List Frame} {meth : Method} {c : Code} {Q : State → Prop} {G : Gt} {A : Nat → Prop} {B : Nat} (hX : CX p s m args c cL_law 7 RL G B A) {b L9 : Nat} {xs : Nat → Int32} (hx : va_X b L9 xs s s.heap) (hbl : b < s.heap.size) (hbA : ¬ A b) (hRf : 18 ≤ R.frames) (hRl : 2000 ≤ R.locals) (hcs : 20000 ≤ R.cells ∧ 200000 ≤ R.slots) {sa : Nat} (hT : TX B sa s s.heap) (hflags : l.stackTraces = false) {bx bm bo : Nat} {A9 : Nat → Nat} (hL9 : L9 ≤ 3072) (fin : ∀ (k : Nat) (h9 : hF), k ≤ 512 → J p l e R s m args below meth c Q 7 G A (60 + 20 * k) (700 + 200 * k) 876 (Lw b bx bm bo k) [] h9) : ∀ (d k : Nat) (σ : St) (n m9 : Nat) (h : hF), d + k = L9 / 6 → LI G h bx bm bo A9 σ n m9 → J p l e R s m args below meth c Q 7 G A (60 + 20 * k) (700 + 200 * k) 23 (Lw b bx bm bo k) [] h := by
  intro d
  induction d with
  | zero =>
    intro k σ n m9 h hdk hI
    refine j_iload hX dL_law_23 rfl ?_
    refine j_aload_n hX dL_law_25 rfl ?_
    refine j_slen hX hx hbl hbA dL_law_26 ?_
    refine j_bipush hX dL_law_27 (by decide) ?_
    refine j_isub hX dL_law_29 ?_
    refine j_icmp_gt hX 876 dL_law_30 (by decide) (by omega) (by omega) (fun c30 => ?_) (fun c30 => absurd c30 (by omega))
    exact fin k h (by omega)
  | succ d ih =>
    intro k σ n m9 h hdk hI
    have hk : 6 * k + 6 ≤ L9 := by omega
    have next : ∀ (σ9 : St) (n9 m8 : Nat) (h9 : hF), LI G h9 bx bm bo A9 σ9 n9 m8 → J p l e R s m args below meth c Q 7 G A (60 + 20 * k + 20) (700 + 200 * k + 200) 870 (Lw b bx bm bo k) [] h9 := by
      intro σ9 n9 m8 h9 hI9
      refine j_iinc hX dL_law_870 rfl (by decide) ?_
      refine j_goto hX 23 dL_law_873 (by decide) ?_
      exact j_at (L' := Lw b bx bm bo (k + 1)) (j_wide (by omega) (by omega) (ih (k + 1) σ9 n9 m8 h9 (by omega) hI9)) ⟨rfl, rfl, rfl, rfl, rfl, trivial⟩
    refine j_iload hX dL_law_23 rfl ?_
    refine j_aload_n hX dL_law_25 rfl ?_
    refine j_slen hX hx hbl hbA dL_law_26 ?_
    refine j_bipush hX dL_law_27 (by decide) ?_
    refine j_isub hX dL_law_29 ?_
    refine j_icmp_gt hX 876 dL_law_30 (by decide) (by omega) (by omega) (fun c30 => absurd c30 (by omega)) (fun c30 => ?_)
    refine j_aload_n hX dL_law_33 rfl ?_
    refine j_iload hX dL_law_34 rfl ?_
    refine j_sld hX hx hbl hbA (6 * k) rfl (by omega) hL9 dL_law_36 ?_
    refine j_bipush hX dL_law_37 (by decide) ?_
    refine j_iand hX dL_law_39 ?_
    refine j_table hX (i32r _) dL_law_40 (fun _ => law_0 hX hx hbl hbA hRf hRl ⟨by omega, by omega⟩ hT hflags hI hk hL9 next) (fun _ => law_1 hX hx hbl hbA hRf hRl ⟨by omega, by omega⟩ hI hk hL9 next) (fun _ => law_2 hX hx hbl hbA hRf hRl ⟨by omega, by omega⟩ hI hk hL9 next) (fun _ => law_3 hX hx hbl hbA hRf hRl ⟨by omega, by omega⟩ hI hk hL9 next) (fun _ => law_4 hX hx hbl hbA hRf hRl ⟨by omega, by omega⟩ hI hk hL9 next) (fun _ => law_5 hX hx hbl hbA hRf hRl ⟨by omega, by omega⟩ hI hk hL9 next) (fun _ => law_6 hX hx hbl hbA hRf hRl ⟨by omega, by omega⟩ hI hk hL9 next) (fun _ => law_7 hX hx hbl hbA hRf hRl ⟨by omega, by omega⟩ hI hk hL9 next) (fun _ => law_8 hX hx hbl hbA hRf hRl ⟨by omega, by omega⟩ hI hk hL9 next) (fun _ => law_9 hX hx hbl hbA hRf hRl ⟨by omega, by omega⟩ hI hk hL9 next) (fun _ => law_10 hX hx hbl hbA hRf hRl ⟨by omega, by omega⟩ hI hk hL9 next) (fun _ => law_11 hX hx hbl hbA hRf hRl ⟨by omega, by omega⟩ hI hk hL9 next) ?_
    exact j_wide (by omega) (by omega) (next σ n m9 h hI)
