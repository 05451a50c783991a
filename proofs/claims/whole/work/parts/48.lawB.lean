/-! THE LAW: its cases -/
section LS9
variable {p : Program} {l : Launch} {e : Env} {s : State} {m : MethodId} {below : List Frame} {meth : Method} {c : Code} {H : Heap} {locs : List Loc} {cells slots : Nat} {Q : State → Prop} {b L : Nat} {xs : Nat → Int32} {G : zG} {A : Nat → Prop} {qC qM : Nat → Nat} {pc : Nat} {ls : Array Slot} {rest : List Value} {i : Nat} {C C1 M M1 : St}
theorem KEY {x z : Int32} {st : List Value} (z0 : x = 0 → z = 0) (z1 : ¬ x = 0 → z = 1) (K : zLC p s m b L xs meth c G A qC qM) (d0 : decode code pc = .ok (.ifCond .eq 7, 3)) (d3 : decode code (pc + 3) = .ok (.iconst 1, 1)) (d4 : decode code (pc + 4) = .ok (.goto 4, 3)) (d7 : decode code (pc + 7) = .ok (.iconst 0, 1))
    (kk : W p l e room_1 s m #[.ref b] below meth c H locs cells slots Q (F0 m (pc + 8) ls (.int z :: st))) : W p l e room_1 s m #[.ref b] below meth c H locs cells slots Q (F0 m pc ls (.int x :: st)) := by
  refine lv_if_eq (tgt := pc + 7) K.1.1 K.1.2.1 d0 (by omega) (fun h => ?_) (fun h => ?_)
  · refine lv_iconst (v := 0) K.1.1 K.1.2.1 d7 rfl ?_
    rw [z0 h] at kk
    exact kk
  · refine lv_iconst (v := 1) K.1.1 K.1.2.1 d3 rfl ?_
    refine lv_goto (tgt := pc + 8) K.1.1 K.1.2.1 d4 (by omega) ?_
    rw [z1 h] at kk
    exact kk
theorem law_code (K : zLC p s m b L xs meth c G A qC qM) (hcs : cells ≤ 600000 ∧ slots ≤ 7302250) (hi : i + 5 ≤ L) (hRE : RE C M) (hINV : INV M) (hC : (zP G.1 58 qC (eC G qC) C H)) (hM : (zP G.1 21 qM (eM G qM) M H)) (hS : va_S A s.heap H locs) (hl : lv_has ls 4 [(3, .int (nI i)), (2, .ref (qM 0)), (1, .ref (qC 0)), (0, .ref b)]) (IH : ∀ (C1 M1 : St) (H1 : Heap) (locs1 : List Loc), RE C1 M1 → INV M1 → (zP G.1 58 qC (eC G qC) C1 H1) → (zP G.1 21 qM (eM G qM) M1 H1) → va_S A s.heap H1 locs1 → W p l e room_1 s m #[.ref b] below meth c H1 locs1 cells slots Q (F0 m 512 ls [])) : W p l e room_1 s m #[.ref b] below meth c H locs cells slots Q (F0 m 104 ls []) := by
  obtain ⟨r, C1, M1, e1, e2, hR1, hI1⟩ := code_ok hRE hINV (xs (i + 1)) (xs (i + 2))
  refine lv_aload_n K.1.1 K.1.2.1 dL_law_104 rfl (lv_at hl 2 rfl) ?_
  refine lawRd (j := 1) (by decide) (by decide +kernel) K hS hl hi dL_law_105 dL_law_106 dL_law_107 dL_law_108 dL_law_109 ?_
  refine lawRd (j := 2) (by decide) (by decide +kernel) K hS hl hi dL_law_110 dL_law_111 dL_law_112 dL_law_113 dL_law_114 ?_
  refine lawC (as := [.int (xs (i + 1)), .int (xs (i + 2))]) (rest := []) K wvL_13 hC hM hS (tX8_code l G (AW 58 qC) qC (AW_D K.2.2.2.2.2.1.1) e1) rfl hl.1 rfl ⟨(Nat.le_of_ble_eq_true rfl), (Nat.le_of_ble_eq_true rfl)⟩ hcs (Nat.le_of_ble_eq_true rfl) dL_law_115 (fun H locs hC hM hS => ?_)
  refine lv_aload_n K.1.1 K.1.2.1 dL_law_118 rfl (lv_at hl 1 rfl) ?_
  refine lawRd (j := 1) (by decide) (by decide +kernel) K hS hl hi dL_law_119 dL_law_120 dL_law_121 dL_law_122 dL_law_123 ?_
  refine lawRd (j := 2) (by decide) (by decide +kernel) K hS hl hi dL_law_124 dL_law_125 dL_law_126 dL_law_127 dL_law_128 ?_
  refine lawM (as := [.int (xs (i + 1)), .int (xs (i + 2))]) (rest := [.int r]) K wvL_17 hC hM hS (tX9_code l G (AW 21 qM) qM (AW_D K.2.2.2.2.2.1.2) e2) rfl hl.1 rfl ⟨(Nat.le_of_ble_eq_true rfl), (Nat.le_of_ble_eq_true rfl)⟩ hcs (Nat.le_of_ble_eq_true rfl) dL_law_129 (fun H locs hC hM hS => ?_)
  refine lv_icmp_eq (tgt := 512) K.1.1 K.1.2.1 dL_law_132 (by decide) (fun _ => ?_) (fun h => absurd rfl h)
  exact IH _ _ _ _ hR1 hI1 hC hM hS
theorem law_codes (K : zLC p s m b L xs meth c G A qC qM) (hcs : cells ≤ 600000 ∧ slots ≤ 7302250) (hi : i + 5 ≤ L) (hRE : RE C M) (hINV : INV M) (hC : (zP G.1 58 qC (eC G qC) C H)) (hM : (zP G.1 21 qM (eM G qM) M H)) (hS : va_S A s.heap H locs) (hl : lv_has ls 4 [(3, .int (nI i)), (2, .ref (qM 0)), (1, .ref (qC 0)), (0, .ref b)]) (IH : ∀ (C1 M1 : St) (H1 : Heap) (locs1 : List Loc), RE C1 M1 → INV M1 → (zP G.1 58 qC (eC G qC) C1 H1) → (zP G.1 21 qM (eM G qM) M1 H1) → va_S A s.heap H1 locs1 → W p l e room_1 s m #[.ref b] below meth c H1 locs1 cells slots Q (F0 m 512 ls [])) : W p l e room_1 s m #[.ref b] below meth c H locs cells slots Q (F0 m 137 ls []) := by
  obtain ⟨r, C1, M1, e1, e2, hR1, hI1⟩ := codes_ok hRE hINV (xs (i + 1)) ((xs (i + 2)).toInt64 <<< ((32 : Int32).toInt64 &&& 63) ||| (xs (i + 3)).toInt64 &&& 4294967295) (xs (i + 4))
  refine lv_aload_n K.1.1 K.1.2.1 dL_law_137 rfl (lv_at hl 2 rfl) ?_
  refine lawRd (j := 1) (by decide) (by decide +kernel) K hS hl hi dL_law_138 dL_law_139 dL_law_140 dL_law_141 dL_law_142 ?_
  refine lawRd (j := 2) (by decide) (by decide +kernel) K hS hl hi dL_law_143 dL_law_144 dL_law_145 dL_law_146 dL_law_147 ?_
  refine lv_i2l K.1.1 K.1.2.1 dL_law_148 rfl ?_
  refine lv_bipush (v := 32) K.1.1 K.1.2.1 dL_law_149 rfl ?_
  refine lv_lshl K.1.1 K.1.2.1 dL_law_151 rfl ?_
  refine lawRd (j := 3) (by decide) (by decide +kernel) K hS hl hi dL_law_152 dL_law_153 dL_law_154 dL_law_155 dL_law_156 ?_
  refine lv_i2l K.1.1 K.1.2.1 dL_law_157 rfl ?_
  refine lv_ldc2 (v := 4294967295) K.1.1 K.1.2.1 K.1.2.2.2.1 (K.1.ws kL_3_167) dL_law_158 ?_
  refine lv_land K.1.1 K.1.2.1 dL_law_161 ?_
  refine lv_lor K.1.1 K.1.2.1 dL_law_162 ?_
  refine lawRd (j := 4) (by decide) (by decide +kernel) K hS hl hi dL_law_163 dL_law_164 dL_law_165 dL_law_166 dL_law_167 ?_
  refine lawC (as := [.int (xs (i + 1)), .long ((xs (i + 2)).toInt64 <<< ((32 : Int32).toInt64 &&& 63) ||| (xs (i + 3)).toInt64 &&& 4294967295), .int (xs (i + 4))]) (rest := []) K wvL_20 hC hM hS (tX8_codes l G (AW 58 qC) qC (AW_D K.2.2.2.2.2.1.1) e1) rfl hl.1 rfl ⟨(Nat.le_of_ble_eq_true rfl), (Nat.le_of_ble_eq_true rfl)⟩ hcs (Nat.le_of_ble_eq_true rfl) dL_law_168 (fun H locs hC hM hS => ?_)
  refine lv_aload_n K.1.1 K.1.2.1 dL_law_171 rfl (lv_at hl 1 rfl) ?_
  refine lawRd (j := 1) (by decide) (by decide +kernel) K hS hl hi dL_law_172 dL_law_173 dL_law_174 dL_law_175 dL_law_176 ?_
  refine lawRd (j := 2) (by decide) (by decide +kernel) K hS hl hi dL_law_177 dL_law_178 dL_law_179 dL_law_180 dL_law_181 ?_
  refine lv_i2l K.1.1 K.1.2.1 dL_law_182 rfl ?_
  refine lv_bipush (v := 32) K.1.1 K.1.2.1 dL_law_183 rfl ?_
  refine lv_lshl K.1.1 K.1.2.1 dL_law_185 rfl ?_
  refine lawRd (j := 3) (by decide) (by decide +kernel) K hS hl hi dL_law_186 dL_law_187 dL_law_188 dL_law_189 dL_law_190 ?_
  refine lv_i2l K.1.1 K.1.2.1 dL_law_191 rfl ?_
  refine lv_ldc2 (v := 4294967295) K.1.1 K.1.2.1 K.1.2.2.2.1 (K.1.ws kL_3_167) dL_law_192 ?_
  refine lv_land K.1.1 K.1.2.1 dL_law_195 ?_
  refine lv_lor K.1.1 K.1.2.1 dL_law_196 ?_
  refine lawRd (j := 4) (by decide) (by decide +kernel) K hS hl hi dL_law_197 dL_law_198 dL_law_199 dL_law_200 dL_law_201 ?_
  refine lawM (as := [.int (xs (i + 1)), .long ((xs (i + 2)).toInt64 <<< ((32 : Int32).toInt64 &&& 63) ||| (xs (i + 3)).toInt64 &&& 4294967295), .int (xs (i + 4))]) (rest := [.int r]) K wvL_24 hC hM hS (tX9_codes l G (AW 21 qM) qM (AW_D K.2.2.2.2.2.1.2) e2) rfl hl.1 rfl ⟨(Nat.le_of_ble_eq_true rfl), (Nat.le_of_ble_eq_true rfl)⟩ hcs (Nat.le_of_ble_eq_true rfl) dL_law_202 (fun H locs hC hM hS => ?_)
  refine lv_icmp_eq (tgt := 512) K.1.1 K.1.2.1 dL_law_205 (by decide) (fun _ => ?_) (fun h => absurd rfl h)
  exact IH _ _ _ _ hR1 hI1 hC hM hS
theorem law_method (K : zLC p s m b L xs meth c G A qC qM) (hcs : cells ≤ 600000 ∧ slots ≤ 7302250) (hi : i + 5 ≤ L) (hRE : RE C M) (hINV : INV M) (hC : (zP G.1 58 qC (eC G qC) C H)) (hM : (zP G.1 21 qM (eM G qM) M H)) (hS : va_S A s.heap H locs) (hl : lv_has ls 4 [(3, .int (nI i)), (2, .ref (qM 0)), (1, .ref (qC 0)), (0, .ref b)]) (IH : ∀ (C1 M1 : St) (H1 : Heap) (locs1 : List Loc), RE C1 M1 → INV M1 → (zP G.1 58 qC (eC G qC) C1 H1) → (zP G.1 21 qM (eM G qM) M1 H1) → va_S A s.heap H1 locs1 → W p l e room_1 s m #[.ref b] below meth c H1 locs1 cells slots Q (F0 m 512 ls [])) : W p l e room_1 s m #[.ref b] below meth c H locs cells slots Q (F0 m 210 ls []) := by
  obtain ⟨z, hz, z0, z1⟩ : ∃ z : Int32, (z = 0 ∨ z = 1) ∧ (xs (i + 4) = 0 → z = 0) ∧ (¬ xs (i + 4) = 0 → z = 1) := by
    by_cases h : xs (i + 4) = 0
    · exact ⟨0, Or.inl rfl, fun _ => rfl, fun q => absurd h q⟩
    · exact ⟨1, Or.inr rfl, fun q => absurd q h, fun _ => rfl⟩
  obtain ⟨r, C1, M1, e1, e2, hR1, hI1⟩ := method_ok hRE hINV (xs (i + 1)) (xs (i + 2)) (xs (i + 3)) z hz
  refine lv_aload_n K.1.1 K.1.2.1 dL_law_210 rfl (lv_at hl 2 rfl) ?_
  refine lawRd (j := 1) (by decide) (by decide +kernel) K hS hl hi dL_law_211 dL_law_212 dL_law_213 dL_law_214 dL_law_215 ?_
  refine lawRd (j := 2) (by decide) (by decide +kernel) K hS hl hi dL_law_216 dL_law_217 dL_law_218 dL_law_219 dL_law_220 ?_
  refine lawRd (j := 3) (by decide) (by decide +kernel) K hS hl hi dL_law_221 dL_law_222 dL_law_223 dL_law_224 dL_law_225 ?_
  refine lawRd (j := 4) (by decide) (by decide +kernel) K hS hl hi dL_law_226 dL_law_227 dL_law_228 dL_law_229 dL_law_230 ?_
  refine KEY (x := xs (i + 4)) z0 z1 K dL_law_231 dL_law_234 dL_law_235 dL_law_238 ?_
  refine lawC (as := [.int (xs (i + 1)), .int (xs (i + 2)), .int (xs (i + 3)), .int z]) (rest := []) K wvL_25 hC hM hS (tX8_method l G (AW 58 qC) qC (AW_D K.2.2.2.2.2.1.1) e1) rfl hl.1 rfl ⟨(Nat.le_of_ble_eq_true rfl), (Nat.le_of_ble_eq_true rfl)⟩ hcs (Nat.le_of_ble_eq_true rfl) dL_law_239 (fun H locs hC hM hS => ?_)
  refine lv_aload_n K.1.1 K.1.2.1 dL_law_242 rfl (lv_at hl 1 rfl) ?_
  refine lawRd (j := 1) (by decide) (by decide +kernel) K hS hl hi dL_law_243 dL_law_244 dL_law_245 dL_law_246 dL_law_247 ?_
  refine lawRd (j := 2) (by decide) (by decide +kernel) K hS hl hi dL_law_248 dL_law_249 dL_law_250 dL_law_251 dL_law_252 ?_
  refine lawRd (j := 3) (by decide) (by decide +kernel) K hS hl hi dL_law_253 dL_law_254 dL_law_255 dL_law_256 dL_law_257 ?_
  refine lawRd (j := 4) (by decide) (by decide +kernel) K hS hl hi dL_law_258 dL_law_259 dL_law_260 dL_law_261 dL_law_262 ?_
  refine KEY (x := xs (i + 4)) z0 z1 K dL_law_263 dL_law_266 dL_law_267 dL_law_270 ?_
  refine lawM (as := [.int (xs (i + 1)), .int (xs (i + 2)), .int (xs (i + 3)), .int z]) (rest := [.int r]) K wvL_29 hC hM hS (tX9_method l G (AW 21 qM) qM (AW_D K.2.2.2.2.2.1.2) e2) rfl hl.1 rfl ⟨(Nat.le_of_ble_eq_true rfl), (Nat.le_of_ble_eq_true rfl)⟩ hcs (Nat.le_of_ble_eq_true rfl) dL_law_271 (fun H locs hC hM hS => ?_)
  refine lv_icmp_eq (tgt := 512) K.1.1 K.1.2.1 dL_law_274 (by decide) (fun _ => ?_) (fun h => absurd rfl h)
  exact IH _ _ _ _ hR1 hI1 hC hM hS
theorem law_type (K : zLC p s m b L xs meth c G A qC qM) (hcs : cells ≤ 600000 ∧ slots ≤ 7302250) (hi : i + 5 ≤ L) (hRE : RE C M) (hINV : INV M) (hC : (zP G.1 58 qC (eC G qC) C H)) (hM : (zP G.1 21 qM (eM G qM) M H)) (hS : va_S A s.heap H locs) (hl : lv_has ls 4 [(3, .int (nI i)), (2, .ref (qM 0)), (1, .ref (qC 0)), (0, .ref b)]) (IH : ∀ (C1 M1 : St) (H1 : Heap) (locs1 : List Loc), RE C1 M1 → INV M1 → (zP G.1 58 qC (eC G qC) C1 H1) → (zP G.1 21 qM (eM G qM) M1 H1) → va_S A s.heap H1 locs1 → W p l e room_1 s m #[.ref b] below meth c H1 locs1 cells slots Q (F0 m 512 ls [])) : W p l e room_1 s m #[.ref b] below meth c H locs cells slots Q (F0 m 279 ls []) := by
  obtain ⟨r, C1, M1, e1, e2, hR1, hI1⟩ := type_ok hRE hINV (xs (i + 1))
  refine lv_aload_n K.1.1 K.1.2.1 dL_law_279 rfl (lv_at hl 2 rfl) ?_
  refine lawRd (j := 1) (by decide) (by decide +kernel) K hS hl hi dL_law_280 dL_law_281 dL_law_282 dL_law_283 dL_law_284 ?_
  refine lawC (as := [.int (xs (i + 1))]) (rest := []) K wvL_30 hC hM hS (tX8_type l G (AW 58 qC) qC (AW_D K.2.2.2.2.2.1.1) e1) rfl hl.1 rfl ⟨(Nat.le_of_ble_eq_true rfl), (Nat.le_of_ble_eq_true rfl)⟩ hcs (Nat.le_of_ble_eq_true rfl) dL_law_285 (fun H locs hC hM hS => ?_)
  refine lv_aload_n K.1.1 K.1.2.1 dL_law_288 rfl (lv_at hl 1 rfl) ?_
  refine lawRd (j := 1) (by decide) (by decide +kernel) K hS hl hi dL_law_289 dL_law_290 dL_law_291 dL_law_292 dL_law_293 ?_
  refine lawM (as := [.int (xs (i + 1))]) (rest := [.int r]) K wvL_34 hC hM hS (tX9_type l G (AW 21 qM) qM (AW_D K.2.2.2.2.2.1.2) e2) rfl hl.1 rfl ⟨(Nat.le_of_ble_eq_true rfl), (Nat.le_of_ble_eq_true rfl)⟩ hcs (Nat.le_of_ble_eq_true rfl) dL_law_294 (fun H locs hC hM hS => ?_)
  refine lv_icmp_eq (tgt := 512) K.1.1 K.1.2.1 dL_law_297 (by decide) (fun _ => ?_) (fun h => absurd rfl h)
  exact IH _ _ _ _ hR1 hI1 hC hM hS
theorem law_run (K : zLC p s m b L xs meth c G A qC qM) (hcs : cells ≤ 600000 ∧ slots ≤ 7302250) (hi : i + 5 ≤ L) (hRE : RE C M) (hINV : INV M) (hC : (zP G.1 58 qC (eC G qC) C H)) (hM : (zP G.1 21 qM (eM G qM) M H)) (hS : va_S A s.heap H locs) (hl : lv_has ls 4 [(3, .int (nI i)), (2, .ref (qM 0)), (1, .ref (qC 0)), (0, .ref b)]) (IH : ∀ (C1 M1 : St) (H1 : Heap) (locs1 : List Loc), RE C1 M1 → INV M1 → (zP G.1 58 qC (eC G qC) C1 H1) → (zP G.1 21 qM (eM G qM) M1 H1) → va_S A s.heap H1 locs1 → W p l e room_1 s m #[.ref b] below meth c H1 locs1 cells slots Q (F0 m 512 ls [])) : W p l e room_1 s m #[.ref b] below meth c H locs cells slots Q (F0 m 302 ls []) := by
  obtain ⟨r, C1, M1, e1, e2, hR1, hI1⟩ := run_ok hRE hINV (xs (i + 1)) (xs (i + 2))
  refine lv_aload_n K.1.1 K.1.2.1 dL_law_302 rfl (lv_at hl 2 rfl) ?_
  refine lawRd (j := 1) (by decide) (by decide +kernel) K hS hl hi dL_law_303 dL_law_304 dL_law_305 dL_law_306 dL_law_307 ?_
  refine lawRd (j := 2) (by decide) (by decide +kernel) K hS hl hi dL_law_308 dL_law_309 dL_law_310 dL_law_311 dL_law_312 ?_
  refine lawC (as := [.int (xs (i + 1)), .int (xs (i + 2))]) (rest := []) K wvL_35 hC hM hS (tX8_run l G (AW 58 qC) qC (AW_D K.2.2.2.2.2.1.1) e1) rfl hl.1 rfl ⟨(Nat.le_of_ble_eq_true rfl), (Nat.le_of_ble_eq_true rfl)⟩ hcs (Nat.le_of_ble_eq_true rfl) dL_law_313 (fun H locs hC hM hS => ?_)
  refine lv_aload_n K.1.1 K.1.2.1 dL_law_316 rfl (lv_at hl 1 rfl) ?_
  refine lawRd (j := 1) (by decide) (by decide +kernel) K hS hl hi dL_law_317 dL_law_318 dL_law_319 dL_law_320 dL_law_321 ?_
  refine lawRd (j := 2) (by decide) (by decide +kernel) K hS hl hi dL_law_322 dL_law_323 dL_law_324 dL_law_325 dL_law_326 ?_
  refine lawM (as := [.int (xs (i + 1)), .int (xs (i + 2))]) (rest := [.int r]) K wvL_38 hC hM hS (tX9_run l G (AW 21 qM) qM (AW_D K.2.2.2.2.2.1.2) e2) rfl hl.1 rfl ⟨(Nat.le_of_ble_eq_true rfl), (Nat.le_of_ble_eq_true rfl)⟩ hcs (Nat.le_of_ble_eq_true rfl) dL_law_327 (fun H locs hC hM hS => ?_)
  refine lv_icmp_eq (tgt := 512) K.1.1 K.1.2.1 dL_law_330 (by decide) (fun _ => ?_) (fun h => absurd rfl h)
  exact IH _ _ _ _ hR1 hI1 hC hM hS
theorem law_thrown0 (K : zLC p s m b L xs meth c G A qC qM) (hcs : cells ≤ 600000 ∧ slots ≤ 7302250) (hi : i + 5 ≤ L) (hRE : RE C M) (hINV : INV M) (hC : (zP G.1 58 qC (eC G qC) C H)) (hM : (zP G.1 21 qM (eM G qM) M H)) (hS : va_S A s.heap H locs) (hl : lv_has ls 4 [(3, .int (nI i)), (2, .ref (qM 0)), (1, .ref (qC 0)), (0, .ref b)]) (IH : ∀ (C1 M1 : St) (H1 : Heap) (locs1 : List Loc), RE C1 M1 → INV M1 → (zP G.1 58 qC (eC G qC) C1 H1) → (zP G.1 21 qM (eM G qM) M1 H1) → va_S A s.heap H1 locs1 → W p l e room_1 s m #[.ref b] below meth c H1 locs1 cells slots Q (F0 m 512 ls [])) : W p l e room_1 s m #[.ref b] below meth c H locs cells slots Q (F0 m 335 ls []) := by
  obtain ⟨r, e1, e2⟩ := thrown0_ok hRE
  refine lv_aload_n K.1.1 K.1.2.1 dL_law_335 rfl (lv_at hl 2 rfl) ?_
  refine lawC (as := []) (rest := []) K wvL_39 hC hM hS (tX8_thrown0 l G (AW 58 qC) qC (AW_D K.2.2.2.2.2.1.1) e1) rfl hl.1 rfl ⟨(Nat.le_of_ble_eq_true rfl), (Nat.le_of_ble_eq_true rfl)⟩ hcs (Nat.le_of_ble_eq_true rfl) dL_law_336 (fun H locs hC hM hS => ?_)
  refine lv_aload_n K.1.1 K.1.2.1 dL_law_339 rfl (lv_at hl 1 rfl) ?_
  refine lawM (as := []) (rest := [.int r]) K wvL_43 hC hM hS (tX9_thrown0 l G (AW 21 qM) qM (AW_D K.2.2.2.2.2.1.2) e2) rfl hl.1 rfl ⟨(Nat.le_of_ble_eq_true rfl), (Nat.le_of_ble_eq_true rfl)⟩ hcs (Nat.le_of_ble_eq_true rfl) dL_law_340 (fun H locs hC hM hS => ?_)
  refine lv_icmp_eq (tgt := 512) K.1.1 K.1.2.1 dL_law_343 (by decide) (fun _ => ?_) (fun h => absurd rfl h)
  exact IH _ _ _ _ hRE hINV hC hM hS
theorem law_value (K : zLC p s m b L xs meth c G A qC qM) (hcs : cells ≤ 600000 ∧ slots ≤ 7302250) (hi : i + 5 ≤ L) (hRE : RE C M) (hINV : INV M) (hC : (zP G.1 58 qC (eC G qC) C H)) (hM : (zP G.1 21 qM (eM G qM) M H)) (hS : va_S A s.heap H locs) (hl : lv_has ls 4 [(3, .int (nI i)), (2, .ref (qM 0)), (1, .ref (qC 0)), (0, .ref b)]) (IH : ∀ (C1 M1 : St) (H1 : Heap) (locs1 : List Loc), RE C1 M1 → INV M1 → (zP G.1 58 qC (eC G qC) C1 H1) → (zP G.1 21 qM (eM G qM) M1 H1) → va_S A s.heap H1 locs1 → W p l e room_1 s m #[.ref b] below meth c H1 locs1 cells slots Q (F0 m 512 ls [])) : W p l e room_1 s m #[.ref b] below meth c H locs cells slots Q (F0 m 348 ls []) := by
  obtain ⟨r, e1, e2⟩ := value_ok hRE
  refine lv_aload_n K.1.1 K.1.2.1 dL_law_348 rfl (lv_at hl 2 rfl) ?_
  refine lawC (as := []) (rest := []) K wvL_44 hC hM hS (tX8_value l G (AW 58 qC) qC (AW_D K.2.2.2.2.2.1.1) e1) rfl hl.1 rfl ⟨(Nat.le_of_ble_eq_true rfl), (Nat.le_of_ble_eq_true rfl)⟩ hcs (Nat.le_of_ble_eq_true rfl) dL_law_349 (fun H locs hC hM hS => ?_)
  refine lv_aload_n K.1.1 K.1.2.1 dL_law_352 rfl (lv_at hl 1 rfl) ?_
  refine lawM (as := []) (rest := [.int r]) K wvL_47 hC hM hS (tX9_value l G (AW 21 qM) qM (AW_D K.2.2.2.2.2.1.2) e2) rfl hl.1 rfl ⟨(Nat.le_of_ble_eq_true rfl), (Nat.le_of_ble_eq_true rfl)⟩ hcs (Nat.le_of_ble_eq_true rfl) dL_law_353 (fun H locs hC hM hS => ?_)
  refine lv_icmp_eq (tgt := 512) K.1.1 K.1.2.1 dL_law_356 (by decide) (fun _ => ?_) (fun h => absurd rfl h)
  exact IH _ _ _ _ hRE hINV hC hM hS
theorem law_reply (K : zLC p s m b L xs meth c G A qC qM) (hcs : cells ≤ 600000 ∧ slots ≤ 7302250) (hi : i + 5 ≤ L) (hRE : RE C M) (hINV : INV M) (hC : (zP G.1 58 qC (eC G qC) C H)) (hM : (zP G.1 21 qM (eM G qM) M H)) (hS : va_S A s.heap H locs) (hl : lv_has ls 4 [(3, .int (nI i)), (2, .ref (qM 0)), (1, .ref (qC 0)), (0, .ref b)]) (IH : ∀ (C1 M1 : St) (H1 : Heap) (locs1 : List Loc), RE C1 M1 → INV M1 → (zP G.1 58 qC (eC G qC) C1 H1) → (zP G.1 21 qM (eM G qM) M1 H1) → va_S A s.heap H1 locs1 → W p l e room_1 s m #[.ref b] below meth c H1 locs1 cells slots Q (F0 m 512 ls [])) : W p l e room_1 s m #[.ref b] below meth c H locs cells slots Q (F0 m 361 ls []) := by
  obtain ⟨r, e1, e2⟩ := reply_ok hRE hINV (xs (i + 1))
  refine lv_aload_n K.1.1 K.1.2.1 dL_law_361 rfl (lv_at hl 2 rfl) ?_
  refine lawRd (j := 1) (by decide) (by decide +kernel) K hS hl hi dL_law_362 dL_law_363 dL_law_364 dL_law_365 dL_law_366 ?_
  refine lawC (as := [.int (xs (i + 1))]) (rest := []) K wvL_48 hC hM hS (tX8_reply l G (AW 58 qC) qC (AW_D K.2.2.2.2.2.1.1) e1) rfl hl.1 rfl ⟨(Nat.le_of_ble_eq_true rfl), (Nat.le_of_ble_eq_true rfl)⟩ hcs (Nat.le_of_ble_eq_true rfl) dL_law_367 (fun H locs hC hM hS => ?_)
  refine lv_aload_n K.1.1 K.1.2.1 dL_law_370 rfl (lv_at hl 1 rfl) ?_
  refine lawRd (j := 1) (by decide) (by decide +kernel) K hS hl hi dL_law_371 dL_law_372 dL_law_373 dL_law_374 dL_law_375 ?_
  refine lawM (as := [.int (xs (i + 1))]) (rest := [.int r]) K wvL_51 hC hM hS (tX9_reply l G (AW 21 qM) qM (AW_D K.2.2.2.2.2.1.2) e2) rfl hl.1 rfl ⟨(Nat.le_of_ble_eq_true rfl), (Nat.le_of_ble_eq_true rfl)⟩ hcs (Nat.le_of_ble_eq_true rfl) dL_law_376 (fun H locs hC hM hS => ?_)
  refine lv_icmp_eq (tgt := 512) K.1.1 K.1.2.1 dL_law_379 (by decide) (fun _ => ?_) (fun h => absurd rfl h)
  exact IH _ _ _ _ hRE hINV hC hM hS
theorem law_used (K : zLC p s m b L xs meth c G A qC qM) (hcs : cells ≤ 600000 ∧ slots ≤ 7302250) (hi : i + 5 ≤ L) (hRE : RE C M) (hINV : INV M) (hC : (zP G.1 58 qC (eC G qC) C H)) (hM : (zP G.1 21 qM (eM G qM) M H)) (hS : va_S A s.heap H locs) (hl : lv_has ls 4 [(3, .int (nI i)), (2, .ref (qM 0)), (1, .ref (qC 0)), (0, .ref b)]) (IH : ∀ (C1 M1 : St) (H1 : Heap) (locs1 : List Loc), RE C1 M1 → INV M1 → (zP G.1 58 qC (eC G qC) C1 H1) → (zP G.1 21 qM (eM G qM) M1 H1) → va_S A s.heap H1 locs1 → W p l e room_1 s m #[.ref b] below meth c H1 locs1 cells slots Q (F0 m 512 ls [])) : W p l e room_1 s m #[.ref b] below meth c H locs cells slots Q (F0 m 384 ls []) := by
  obtain ⟨r, e1, e2⟩ := used_ok hRE
  refine lv_aload_n K.1.1 K.1.2.1 dL_law_384 rfl (lv_at hl 2 rfl) ?_
  refine lawC (as := []) (rest := []) K wvL_52 hC hM hS (tX8_used l G (AW 58 qC) qC (AW_D K.2.2.2.2.2.1.1) e1) rfl hl.1 rfl ⟨(Nat.le_of_ble_eq_true rfl), (Nat.le_of_ble_eq_true rfl)⟩ hcs (Nat.le_of_ble_eq_true rfl) dL_law_385 (fun H locs hC hM hS => ?_)
  refine lv_aload_n K.1.1 K.1.2.1 dL_law_388 rfl (lv_at hl 1 rfl) ?_
  refine lawM (as := []) (rest := [.int r]) K wvL_55 hC hM hS (tX9_used l G (AW 21 qM) qM (AW_D K.2.2.2.2.2.1.2) e2) rfl hl.1 rfl ⟨(Nat.le_of_ble_eq_true rfl), (Nat.le_of_ble_eq_true rfl)⟩ hcs (Nat.le_of_ble_eq_true rfl) dL_law_389 (fun H locs hC hM hS => ?_)
  refine lv_icmp_eq (tgt := 512) K.1.1 K.1.2.1 dL_law_392 (by decide) (fun _ => ?_) (fun h => absurd rfl h)
  exact IH _ _ _ _ hRE hINV hC hM hS
theorem law_tear (K : zLC p s m b L xs meth c G A qC qM) (hcs : cells ≤ 600000 ∧ slots ≤ 7302250) (hi : i + 5 ≤ L) (hRE : RE C M) (hINV : INV M) (hC : (zP G.1 58 qC (eC G qC) C H)) (hM : (zP G.1 21 qM (eM G qM) M H)) (hS : va_S A s.heap H locs) (hl : lv_has ls 4 [(3, .int (nI i)), (2, .ref (qM 0)), (1, .ref (qC 0)), (0, .ref b)]) (IH : ∀ (C1 M1 : St) (H1 : Heap) (locs1 : List Loc), RE C1 M1 → INV M1 → (zP G.1 58 qC (eC G qC) C1 H1) → (zP G.1 21 qM (eM G qM) M1 H1) → va_S A s.heap H1 locs1 → W p l e room_1 s m #[.ref b] below meth c H1 locs1 cells slots Q (F0 m 512 ls [])) : W p l e room_1 s m #[.ref b] below meth c H locs cells slots Q (F0 m 397 ls []) := by
  obtain ⟨r, C1, M1, e1, e2, hR1, hI1⟩ := tear_ok hRE hINV (xs (i + 1))
  refine lv_aload_n K.1.1 K.1.2.1 dL_law_397 rfl (lv_at hl 2 rfl) ?_
  refine lawRd (j := 1) (by decide) (by decide +kernel) K hS hl hi dL_law_398 dL_law_399 dL_law_400 dL_law_401 dL_law_402 ?_
  refine lawC (as := [.int (xs (i + 1))]) (rest := []) K wvL_56 hC hM hS (tX8_tear l G (AW 58 qC) qC (AW_D K.2.2.2.2.2.1.1) e1) rfl hl.1 rfl ⟨(Nat.le_of_ble_eq_true rfl), (Nat.le_of_ble_eq_true rfl)⟩ hcs (Nat.le_of_ble_eq_true rfl) dL_law_403 (fun H locs hC hM hS => ?_)
  refine lv_aload_n K.1.1 K.1.2.1 dL_law_406 rfl (lv_at hl 1 rfl) ?_
  refine lawRd (j := 1) (by decide) (by decide +kernel) K hS hl hi dL_law_407 dL_law_408 dL_law_409 dL_law_410 dL_law_411 ?_
  refine lawM (as := [.int (xs (i + 1))]) (rest := [.int r]) K wvL_59 hC hM hS (tX9_tear l G (AW 21 qM) qM (AW_D K.2.2.2.2.2.1.2) e2) rfl hl.1 rfl ⟨(Nat.le_of_ble_eq_true rfl), (Nat.le_of_ble_eq_true rfl)⟩ hcs (Nat.le_of_ble_eq_true rfl) dL_law_412 (fun H locs hC hM hS => ?_)
  refine lv_icmp_eq (tgt := 512) K.1.1 K.1.2.1 dL_law_415 (by decide) (fun _ => ?_) (fun h => absurd rfl h)
  exact IH _ _ _ _ hR1 hI1 hC hM hS
theorem law_reset (K : zLC p s m b L xs meth c G A qC qM) (hcs : cells ≤ 600000 ∧ slots ≤ 7302250) (hi : i + 5 ≤ L) (hRE : RE C M) (hINV : INV M) (hC : (zP G.1 58 qC (eC G qC) C H)) (hM : (zP G.1 21 qM (eM G qM) M H)) (hS : va_S A s.heap H locs) (hl : lv_has ls 4 [(3, .int (nI i)), (2, .ref (qM 0)), (1, .ref (qC 0)), (0, .ref b)]) (IH : ∀ (C1 M1 : St) (H1 : Heap) (locs1 : List Loc), RE C1 M1 → INV M1 → (zP G.1 58 qC (eC G qC) C1 H1) → (zP G.1 21 qM (eM G qM) M1 H1) → va_S A s.heap H1 locs1 → W p l e room_1 s m #[.ref b] below meth c H1 locs1 cells slots Q (F0 m 512 ls [])) : W p l e room_1 s m #[.ref b] below meth c H locs cells slots Q (F0 m 420 ls []) := by
  obtain ⟨r, C1, M1, e1, e2, hR1, hI1⟩ := reset_ok hRE hINV
  refine lv_aload_n K.1.1 K.1.2.1 dL_law_420 rfl (lv_at hl 2 rfl) ?_
  refine lawC (as := []) (rest := []) K wvL_60 hC hM hS (tX8_reset l G (AW 58 qC) qC (AW_D K.2.2.2.2.2.1.1) e1) rfl hl.1 rfl ⟨(Nat.le_of_ble_eq_true rfl), (Nat.le_of_ble_eq_true rfl)⟩ hcs (Nat.le_of_ble_eq_true rfl) dL_law_421 (fun H locs hC hM hS => ?_)
  refine lv_aload_n K.1.1 K.1.2.1 dL_law_424 rfl (lv_at hl 1 rfl) ?_
  refine lawM (as := []) (rest := [.int r]) K wvL_63 hC hM hS (tX9_reset l G (AW 21 qM) qM (AW_D K.2.2.2.2.2.1.2) e2) rfl hl.1 rfl ⟨(Nat.le_of_ble_eq_true rfl), (Nat.le_of_ble_eq_true rfl)⟩ hcs (Nat.le_of_ble_eq_true rfl) dL_law_425 (fun H locs hC hM hS => ?_)
  refine lv_icmp_eq (tgt := 512) K.1.1 K.1.2.1 dL_law_428 (by decide) (fun _ => ?_) (fun h => absurd rfl h)
  exact IH _ _ _ _ hR1 hI1 hC hM hS
theorem law_objects (K : zLC p s m b L xs meth c G A qC qM) (hcs : cells ≤ 600000 ∧ slots ≤ 7302250) (hi : i + 5 ≤ L) (hRE : RE C M) (hINV : INV M) (hC : (zP G.1 58 qC (eC G qC) C H)) (hM : (zP G.1 21 qM (eM G qM) M H)) (hS : va_S A s.heap H locs) (hl : lv_has ls 4 [(3, .int (nI i)), (2, .ref (qM 0)), (1, .ref (qC 0)), (0, .ref b)]) (IH : ∀ (C1 M1 : St) (H1 : Heap) (locs1 : List Loc), RE C1 M1 → INV M1 → (zP G.1 58 qC (eC G qC) C1 H1) → (zP G.1 21 qM (eM G qM) M1 H1) → va_S A s.heap H1 locs1 → W p l e room_1 s m #[.ref b] below meth c H1 locs1 cells slots Q (F0 m 512 ls [])) : W p l e room_1 s m #[.ref b] below meth c H locs cells slots Q (F0 m 433 ls []) := by
  obtain ⟨r, e1, e2⟩ := objects_ok hRE
  refine lv_aload_n K.1.1 K.1.2.1 dL_law_433 rfl (lv_at hl 2 rfl) ?_
  refine lawC (as := []) (rest := []) K wvL_64 hC hM hS (tX8_objects l G (AW 58 qC) qC (AW_D K.2.2.2.2.2.1.1) e1) rfl hl.1 rfl ⟨(Nat.le_of_ble_eq_true rfl), (Nat.le_of_ble_eq_true rfl)⟩ hcs (Nat.le_of_ble_eq_true rfl) dL_law_434 (fun H locs hC hM hS => ?_)
  refine lv_aload_n K.1.1 K.1.2.1 dL_law_437 rfl (lv_at hl 1 rfl) ?_
  refine lawM (as := []) (rest := [.int r]) K wvL_67 hC hM hS (tX9_objects l G (AW 21 qM) qM (AW_D K.2.2.2.2.2.1.2) e2) rfl hl.1 rfl ⟨(Nat.le_of_ble_eq_true rfl), (Nat.le_of_ble_eq_true rfl)⟩ hcs (Nat.le_of_ble_eq_true rfl) dL_law_438 (fun H locs hC hM hS => ?_)
  refine lv_icmp_eq (tgt := 512) K.1.1 K.1.2.1 dL_law_441 (by decide) (fun _ => ?_) (fun h => absurd rfl h)
  exact IH _ _ _ _ hRE hINV hC hM hS
theorem law_told (K : zLC p s m b L xs meth c G A qC qM) (hcs : cells ≤ 600000 ∧ slots ≤ 7302250) (hi : i + 5 ≤ L) (hRE : RE C M) (hINV : INV M) (hC : (zP G.1 58 qC (eC G qC) C H)) (hM : (zP G.1 21 qM (eM G qM) M H)) (hS : va_S A s.heap H locs) (hl : lv_has ls 4 [(3, .int (nI i)), (2, .ref (qM 0)), (1, .ref (qC 0)), (0, .ref b)]) (IH : ∀ (C1 M1 : St) (H1 : Heap) (locs1 : List Loc), RE C1 M1 → INV M1 → (zP G.1 58 qC (eC G qC) C1 H1) → (zP G.1 21 qM (eM G qM) M1 H1) → va_S A s.heap H1 locs1 → W p l e room_1 s m #[.ref b] below meth c H1 locs1 cells slots Q (F0 m 512 ls [])) : W p l e room_1 s m #[.ref b] below meth c H locs cells slots Q (F0 m 446 ls []) := by
  obtain ⟨r, e1, e2⟩ := told_ok hRE hINV (xs (i + 1)) (xs (i + 2))
  refine lv_aload_n K.1.1 K.1.2.1 dL_law_446 rfl (lv_at hl 2 rfl) ?_
  refine lawRd (j := 1) (by decide) (by decide +kernel) K hS hl hi dL_law_447 dL_law_448 dL_law_449 dL_law_450 dL_law_451 ?_
  refine lawRd (j := 2) (by decide) (by decide +kernel) K hS hl hi dL_law_452 dL_law_453 dL_law_454 dL_law_455 dL_law_456 ?_
  refine lawC (as := [.int (xs (i + 1)), .int (xs (i + 2))]) (rest := []) K wvL_68 hC hM hS (tX8_told l G (AW 58 qC) qC (AW_D K.2.2.2.2.2.1.1) e1) rfl hl.1 rfl ⟨(Nat.le_of_ble_eq_true rfl), (Nat.le_of_ble_eq_true rfl)⟩ hcs (Nat.le_of_ble_eq_true rfl) dL_law_457 (fun H locs hC hM hS => ?_)
  refine lv_aload_n K.1.1 K.1.2.1 dL_law_460 rfl (lv_at hl 1 rfl) ?_
  refine lawRd (j := 1) (by decide) (by decide +kernel) K hS hl hi dL_law_461 dL_law_462 dL_law_463 dL_law_464 dL_law_465 ?_
  refine lawRd (j := 2) (by decide) (by decide +kernel) K hS hl hi dL_law_466 dL_law_467 dL_law_468 dL_law_469 dL_law_470 ?_
  refine lawM (as := [.int (xs (i + 1)), .int (xs (i + 2))]) (rest := [.int r]) K wvL_71 hC hM hS (tX9_told l G (AW 21 qM) qM (AW_D K.2.2.2.2.2.1.2) e2) rfl hl.1 rfl ⟨(Nat.le_of_ble_eq_true rfl), (Nat.le_of_ble_eq_true rfl)⟩ hcs (Nat.le_of_ble_eq_true rfl) dL_law_471 (fun H locs hC hM hS => ?_)
  refine lv_icmp_eq (tgt := 512) K.1.1 K.1.2.1 dL_law_474 (by decide) (fun _ => ?_) (fun h => absurd rfl h)
  exact IH _ _ _ _ hRE hINV hC hM hS
theorem law_cell (K : zLC p s m b L xs meth c G A qC qM) (hcs : cells ≤ 600000 ∧ slots ≤ 7302250) (hi : i + 5 ≤ L) (hRE : RE C M) (hINV : INV M) (hC : (zP G.1 58 qC (eC G qC) C H)) (hM : (zP G.1 21 qM (eM G qM) M H)) (hS : va_S A s.heap H locs) (hl : lv_has ls 4 [(3, .int (nI i)), (2, .ref (qM 0)), (1, .ref (qC 0)), (0, .ref b)]) (IH : ∀ (C1 M1 : St) (H1 : Heap) (locs1 : List Loc), RE C1 M1 → INV M1 → (zP G.1 58 qC (eC G qC) C1 H1) → (zP G.1 21 qM (eM G qM) M1 H1) → va_S A s.heap H1 locs1 → W p l e room_1 s m #[.ref b] below meth c H1 locs1 cells slots Q (F0 m 512 ls [])) : W p l e room_1 s m #[.ref b] below meth c H locs cells slots Q (F0 m 479 ls []) := by
  obtain ⟨r, e1, e2⟩ := cell_ok hRE hINV (xs (i + 1)) (xs (i + 2))
  refine lv_aload_n K.1.1 K.1.2.1 dL_law_479 rfl (lv_at hl 2 rfl) ?_
  refine lawRd (j := 1) (by decide) (by decide +kernel) K hS hl hi dL_law_480 dL_law_481 dL_law_482 dL_law_483 dL_law_484 ?_
  refine lawRd (j := 2) (by decide) (by decide +kernel) K hS hl hi dL_law_485 dL_law_486 dL_law_487 dL_law_488 dL_law_489 ?_
  refine lawC (as := [.int (xs (i + 1)), .int (xs (i + 2))]) (rest := []) K wvL_72 hC hM hS (tX8_cell l G (AW 58 qC) qC (AW_D K.2.2.2.2.2.1.1) e1) rfl hl.1 rfl ⟨(Nat.le_of_ble_eq_true rfl), (Nat.le_of_ble_eq_true rfl)⟩ hcs (Nat.le_of_ble_eq_true rfl) dL_law_490 (fun H locs hC hM hS => ?_)
  refine lv_aload_n K.1.1 K.1.2.1 dL_law_493 rfl (lv_at hl 1 rfl) ?_
  refine lawRd (j := 1) (by decide) (by decide +kernel) K hS hl hi dL_law_494 dL_law_495 dL_law_496 dL_law_497 dL_law_498 ?_
  refine lawRd (j := 2) (by decide) (by decide +kernel) K hS hl hi dL_law_499 dL_law_500 dL_law_501 dL_law_502 dL_law_503 ?_
  refine lawM (as := [.int (xs (i + 1)), .int (xs (i + 2))]) (rest := [.int r]) K wvL_75 hC hM hS (tX9_cell l G (AW 21 qM) qM (AW_D K.2.2.2.2.2.1.2) e2) rfl hl.1 rfl ⟨(Nat.le_of_ble_eq_true rfl), (Nat.le_of_ble_eq_true rfl)⟩ hcs (Nat.le_of_ble_eq_true rfl) dL_law_504 (fun H locs hC hM hS => ?_)
  refine lv_icmp_eq (tgt := 512) K.1.1 K.1.2.1 dL_law_507 (by decide) (fun _ => ?_) (fun h => absurd rfl h)
  exact IH _ _ _ _ hRE hINV hC hM hS
end LS9
