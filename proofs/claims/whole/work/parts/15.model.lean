def pX9_isIn (x0 : Int32) (x1 : Int32) (x2 : Int32) : Option Int32 :=
  if x0 < x1 then
    some 0
  else
    if x2 < x0 then
      some 0
    else
      some 1
set_option maxHeartbeats 4000000 in
set_option maxRecDepth 100000 in
theorem tX9_isIn (l : Launch) (G : zG) (A : Nat → Prop) (P0 : Heap → Prop) {r : Int32} {x0 : Int32} {x1 : Int32} {x2 : Int32} (hs : pX9_isIn x0 x1 x2 = some r) : zKI l yX9_isIn cX9_isIn 3 (some .boolean) 0 0 G A P0 [.int x0, .int x1, .int x2] r P0 := by
  refine zKI_of (by decide) (Nat.le_of_ble_eq_true rfl) (fun p e s m args below meth c H ls F hH hP hl => ?_)
  have F : zFx p s m args meth c cX9_isIn RX9 3 (some .boolean) G A := F
  have hS : va_S A s.heap H [] := hH ▸ va_S.rf
  have hl : lv_has ls 3 [(0, .int x0), (1, .int x1), (2, .int x2)] := hl
  rw [pX9_isIn] at hs
  refine lv_iload_n F.1 F.2.1 dX9_isIn_0 rfl (lv_at hl 0 rfl) ?_
  refine lv_iload_n F.1 F.2.1 dX9_isIn_1 rfl (lv_at hl 1 rfl) ?_
  refine lv_icmp_lt (tgt := 14) F.1 F.2.1 dX9_isIn_2 (by decide) (fun c1 => ?_) (fun c1 => ?_)
  · have hs := it_t c1 hs
    refine lv_iconst (v := 0) F.1 F.2.1 dX9_isIn_14 rfl ?_
    cases hs
    exact x_iret F rfl rfl hP hS dX9_isIn_15
  have hs := it_f c1 hs
  refine lv_iload_n F.1 F.2.1 dX9_isIn_5 rfl (lv_at hl 0 rfl) ?_
  refine lv_iload_n F.1 F.2.1 dX9_isIn_6 rfl (lv_at hl 2 rfl) ?_
  refine lv_icmp_gt (tgt := 14) F.1 F.2.1 dX9_isIn_7 (by decide) (fun c2 => ?_) (fun c2 => ?_)
  · have hs := it_t c2 hs
    refine lv_iconst (v := 0) F.1 F.2.1 dX9_isIn_14 rfl ?_
    cases hs
    exact x_iret F rfl rfl hP hS dX9_isIn_15
  have hs := it_f c2 hs
  refine lv_iconst (v := 1) F.1 F.2.1 dX9_isIn_10 rfl ?_
  refine lv_goto (tgt := 15) F.1 F.2.1 dX9_isIn_11 (by decide) ?_
  cases hs
  exact x_iret F rfl rfl hP hS dX9_isIn_15

def pX9_add_b56 : Nat → St → Int32 → Int32 → Option St
  | 0, _, _, _ => none
  | n + 1, M, x3, x4 =>
    if x3 ≤ x4 then
      lt (up2 M 0 10 ((M 0 10) + x3)) fun M1 =>
      some M1
    else
      gd (inb ((M 0 10) + x4) 240) <|
      lt (up2 M 9 (ix ((M 0 10) + x4)) 0) fun M2 =>
      pX9_add_b56 n M2 x3 (x4 + 1)
def pX9_add (M : St) (x1 : Int32) (x2 : Int32) (x3 : Int32) : Option St :=
  lt (up2 M 0 4 ((M 0 4) + 1)) fun M1 =>
  gd (inb (M1 0 4) 41) <|
  lt (up2 M1 5 (ix (M1 0 4)) x1) fun M2 =>
  gd (inb (M2 0 4) 41) <|
  lt (up2 M2 6 (ix (M2 0 4)) x2) fun M3 =>
  gd (inb (M3 0 4) 41) <|
  lt (up2 M3 7 (ix (M3 0 4)) x3) fun M4 =>
  gd (inb (M4 0 4) 41) <|
  lt (up2 M4 8 (ix (M4 0 4)) (M4 0 10)) fun M5 =>
  pX9_add_b56 LF M5 x3 0
set_option maxHeartbeats 4000000 in
set_option maxRecDepth 100000 in
theorem tX9_add_b56 (n : Nat) {G : zG} {A : Nat → Prop} {q : Nat → Nat} (hq : zQD A 21 q) {M' : St} : ∀ {M : St} {x3 : Int32} {x4 : Int32} (hs : pX9_add_b56 n M x3 x4 = some M') {p : Program} {l : Launch} {e : Env} {s : State} {m : MethodId} {args : Array Value} {below : List Frame} {meth : Method} {c : Code} {H : Heap} {locs : List Loc} {ls : Array Slot} (F : zFx p s m args meth c cX9_add RX9 5 none G A) (hP : (zP G.1 21 q (eM G q) M) H) (hS : va_S A s.heap H locs) (hl : lv_has ls 5 [(0, .ref (q 0)), (3, .int x3), (4, .int x4)]), W p l e { frames := 0, cells := 0, slots := 0, locals := 0 } s m args below meth c H locs 0 0 (MQ below (va_Qv (fun (_ : Unit) => True) (fun _ U => (zP G.1 21 q (eM G q) M') U.heap) A) args s 0 0 A) (F0 m 56 ls []) := by
  induction n with
  | zero =>
    intro M x3 x4 hs p l e s m args below meth c H locs ls F hP hS hl
    rw [pX9_add_b56] at hs
    cases hs
  | succ n ih =>
    intro M x3 x4 hs p l e s m args below meth c H locs ls F hP hS hl
    rw [pX9_add_b56] at hs
    refine lv_iload F.1 F.2.1 dX9_add_56 (lv_at hl 2 rfl) ?_
    refine lv_iload_n F.1 F.2.1 dX9_add_58 rfl (lv_at hl 1 rfl) ?_
    refine lv_icmp_ge (tgt := 81) F.1 F.2.1 dX9_add_59 (by decide) (fun c1 => ?_) (fun c1 => ?_)
    · have hs := it_t c1 hs
      refine lv_aload_n F.1 F.2.1 dX9_add_81 rfl (lv_at hl 0 rfl) ?_
      refine lv_dup F.1 F.2.1 dX9_add_82 rfl ?_
      refine gM_X9_86 F hP dX9_add_83 ?_
      refine lv_iload_n F.1 F.2.1 dX9_add_86 rfl (lv_at hl 1 rfl) ?_
      refine lv_iadd F.1 F.2.1 dX9_add_87 ?_
      obtain ⟨M1, eM1, hs⟩ := lt_some hs
      refine hM_X9_86 F hq hP hS eM1 dX9_add_88 (fun H locs hP hS => ?_)
      cases hs
      exact x_vret F hP hS dX9_add_91
    have hs := it_f c1 hs
    refine lv_aload_n F.1 F.2.1 dX9_add_62 rfl (lv_at hl 0 rfl) ?_
    refine gM_X9_35 F hP dX9_add_63 ?_
    refine lv_aload_n F.1 F.2.1 dX9_add_66 rfl (lv_at hl 0 rfl) ?_
    refine gM_X9_86 F hP dX9_add_67 ?_
    refine lv_iload F.1 F.2.1 dX9_add_70 (lv_at hl 2 rfl) ?_
    refine lv_iadd F.1 F.2.1 dX9_add_72 ?_
    refine lv_iconst (v := 0) F.1 F.2.1 dX9_add_73 rfl ?_
    obtain ⟨g1, hs⟩ := gd_some hs
    obtain ⟨M2, eM2, hs⟩ := lt_some hs
    refine x_iast F hq hP hS (arM_9 G q) g1 eM2 dX9_add_74 (fun H locs hP hS => ?_)
    refine lv_iinc (v := x4 + 1) (lv' := [(4, .int (x4 + 1)), (0, .ref (q 0)), (3, .int x3)]) F.1 F.2.1 dX9_add_75 hl (k := 2) rfl rfl (by decide) rfl (fun ls hl => ?_)
    refine lv_goto (tgt := 56) F.1 F.2.1 dX9_add_78 (by decide) ?_
    exact ih hs F hP hS (lv_sub hl [1, 2, 0] rfl)
set_option maxHeartbeats 4000000 in
set_option maxRecDepth 100000 in
theorem tX9_add (l : Launch) (G : zG) (A : Nat → Prop) (q : Nat → Nat) (hq : zQD A 21 q) {M M' : St} {x1 : Int32} {x2 : Int32} {x3 : Int32} (hs : pX9_add M x1 x2 x3 = some M') : zKV l yX9_add cX9_add 5 0 0 G A (zP G.1 21 q (eM G q) M) [.ref (q 0), .int x1, .int x2, .int x3] (zP G.1 21 q (eM G q) M') := by
  refine zKV_of (by decide) (Nat.le_of_ble_eq_true rfl) (fun p e s m args below meth c H ls F hH hP hl => ?_)
  have F : zFx p s m args meth c cX9_add RX9 5 none G A := F
  have hS : va_S A s.heap H [] := hH ▸ va_S.rf
  have hl : lv_has ls 5 [(0, .ref (q 0)), (1, .int x1), (2, .int x2), (3, .int x3)] := hl
  rw [pX9_add] at hs
  refine lv_aload_n F.1 F.2.1 dX9_add_0 rfl (lv_at hl 0 rfl) ?_
  refine lv_dup F.1 F.2.1 dX9_add_1 rfl ?_
  refine gM_X9_83 F hP dX9_add_2 ?_
  refine lv_iconst (v := 1) F.1 F.2.1 dX9_add_5 rfl ?_
  refine lv_iadd F.1 F.2.1 dX9_add_6 ?_
  obtain ⟨M1, eM1, hs⟩ := lt_some hs
  refine hM_X9_83 F hq hP hS eM1 dX9_add_7 (fun H locs hP hS => ?_)
  refine lv_aload_n F.1 F.2.1 dX9_add_10 rfl (lv_at hl 0 rfl) ?_
  refine gM_X9_23 F hP dX9_add_11 ?_
  refine lv_aload_n F.1 F.2.1 dX9_add_14 rfl (lv_at hl 0 rfl) ?_
  refine gM_X9_83 F hP dX9_add_15 ?_
  refine lv_iload_n F.1 F.2.1 dX9_add_18 rfl (lv_at hl 1 rfl) ?_
  obtain ⟨g1, hs⟩ := gd_some hs
  obtain ⟨M2, eM2, hs⟩ := lt_some hs
  refine x_iast F hq hP hS (arM_5 G q) g1 eM2 dX9_add_19 (fun H locs hP hS => ?_)
  refine lv_aload_n F.1 F.2.1 dX9_add_20 rfl (lv_at hl 0 rfl) ?_
  refine gM_X9_26 F hP dX9_add_21 ?_
  refine lv_aload_n F.1 F.2.1 dX9_add_24 rfl (lv_at hl 0 rfl) ?_
  refine gM_X9_83 F hP dX9_add_25 ?_
  refine lv_iload_n F.1 F.2.1 dX9_add_28 rfl (lv_at hl 2 rfl) ?_
  obtain ⟨g2, hs⟩ := gd_some hs
  obtain ⟨M3, eM3, hs⟩ := lt_some hs
  refine x_iast F hq hP hS (arM_6 G q) g2 eM3 dX9_add_29 (fun H locs hP hS => ?_)
  refine lv_aload_n F.1 F.2.1 dX9_add_30 rfl (lv_at hl 0 rfl) ?_
  refine gM_X9_29 F hP dX9_add_31 ?_
  refine lv_aload_n F.1 F.2.1 dX9_add_34 rfl (lv_at hl 0 rfl) ?_
  refine gM_X9_83 F hP dX9_add_35 ?_
  refine lv_iload_n F.1 F.2.1 dX9_add_38 rfl (lv_at hl 3 rfl) ?_
  obtain ⟨g3, hs⟩ := gd_some hs
  obtain ⟨M4, eM4, hs⟩ := lt_some hs
  refine x_iast F hq hP hS (arM_7 G q) g3 eM4 dX9_add_39 (fun H locs hP hS => ?_)
  refine lv_aload_n F.1 F.2.1 dX9_add_40 rfl (lv_at hl 0 rfl) ?_
  refine gM_X9_32 F hP dX9_add_41 ?_
  refine lv_aload_n F.1 F.2.1 dX9_add_44 rfl (lv_at hl 0 rfl) ?_
  refine gM_X9_83 F hP dX9_add_45 ?_
  refine lv_aload_n F.1 F.2.1 dX9_add_48 rfl (lv_at hl 0 rfl) ?_
  refine gM_X9_86 F hP dX9_add_49 ?_
  obtain ⟨g4, hs⟩ := gd_some hs
  obtain ⟨M5, eM5, hs⟩ := lt_some hs
  refine x_iast F hq hP hS (arM_8 G q) g4 eM5 dX9_add_52 (fun H locs hP hS => ?_)
  refine lv_iconst (v := 0) F.1 F.2.1 dX9_add_53 rfl ?_
  refine lv_istore (lv' := [(4, .int 0), (0, .ref (q 0)), (1, .int x1), (2, .int x2), (3, .int x3)]) F.1 F.2.1 dX9_add_54 hl (by decide) rfl (fun ls hl => ?_)
  exact tX9_add_b56 LF hq hs F hP hS (lv_sub hl [1, 4, 0] rfl)

def pX9_code (M : St) (x1 : Int32) (x2 : Int32) : Option (Int32 × St) :=
  bn (pX9_isIn x1 0 511) fun r1 =>
  if r1 = 0 then
    some ((-1), M)
  else
    bn (pX9_isIn x2 0 255) fun r2 =>
    if r2 = 0 then
      some ((-1), M)
    else
      gd (inb x1 512) <|
      lt (up2 M 1 (ix x1) x2) fun M1 =>
      some (1, M1)
set_option maxHeartbeats 4000000 in
set_option maxRecDepth 100000 in
theorem tX9_code (l : Launch) (G : zG) (A : Nat → Prop) (q : Nat → Nat) (hq : zQD A 21 q) {M M' : St} {r : Int32} {x1 : Int32} {x2 : Int32} (hs : pX9_code M x1 x2 = some (r, M')) : zKI l yX9_code cX9_code 3 (some .int) 1 22 G A (zP G.1 21 q (eM G q) M) [.ref (q 0), .int x1, .int x2] r (zP G.1 21 q (eM G q) M') := by
  refine zKI_of (by decide) (Nat.le_of_ble_eq_true rfl) (fun p e s m args below meth c H ls F hH hP hl => ?_)
  have F : zFx p s m args meth c cX9_code RX9 3 (some .int) G A := F
  have hS : va_S A s.heap H [] := hH ▸ va_S.rf
  have hl : lv_has ls 3 [(0, .ref (q 0)), (1, .int x1), (2, .int x2)] := hl
  rw [pX9_code] at hs
  refine lv_iload_n F.1 F.2.1 dX9_code_0 rfl (lv_at hl 1 rfl) ?_
  refine lv_iconst (v := 0) F.1 F.2.1 dX9_code_1 rfl ?_
  refine lv_sipush (v := 511) F.1 F.2.1 dX9_code_2 rfl ?_
  obtain ⟨r1, h1, hs⟩ := bn_some hs
  refine x_callSI (rest := []) wv_X9_89 F hS (fun _ h => h) hS.2.1 (tX9_isIn l G A (zP G.1 21 q (eM G q) M) h1) hP rfl hl.1 rfl ⟨Nat.le_of_ble_eq_true rfl, Nat.le_of_ble_eq_true rfl⟩ ⟨Nat.le_refl _, Nat.le_refl _⟩ (Nat.le_of_ble_eq_true rfl) dX9_code_5 (fun H locs hP hS _ _ => ?_)
  refine lv_if_eq (tgt := 22) F.1 F.2.1 dX9_code_8 (by decide) (fun c1 => ?_) (fun c1 => ?_)
  · have hs := it_t c1 hs
    refine lv_iconst (v := (-1)) F.1 F.2.1 dX9_code_22 rfl ?_
    cases hs
    exact x_iret F rfl rfl hP hS dX9_code_23
  have hs := it_f c1 hs
  refine lv_iload_n F.1 F.2.1 dX9_code_11 rfl (lv_at hl 2 rfl) ?_
  refine lv_iconst (v := 0) F.1 F.2.1 dX9_code_12 rfl ?_
  refine lv_sipush (v := 255) F.1 F.2.1 dX9_code_13 rfl ?_
  obtain ⟨r2, h2, hs⟩ := bn_some hs
  refine x_callSI (rest := []) wv_X9_89 F hS (fun _ h => h) hS.2.1 (tX9_isIn l G A (zP G.1 21 q (eM G q) M) h2) hP rfl hl.1 rfl ⟨Nat.le_of_ble_eq_true rfl, Nat.le_of_ble_eq_true rfl⟩ ⟨Nat.le_refl _, Nat.le_refl _⟩ (Nat.le_of_ble_eq_true rfl) dX9_code_16 (fun H locs hP hS _ _ => ?_)
  refine lv_if_ne (tgt := 24) F.1 F.2.1 dX9_code_19 (by decide) (fun c2 => ?_) (fun c2 => ?_)
  · have hs := it_f c2 hs
    refine lv_aload_n F.1 F.2.1 dX9_code_24 rfl (lv_at hl 0 rfl) ?_
    refine gM_X9_7 F hP dX9_code_25 ?_
    refine lv_iload_n F.1 F.2.1 dX9_code_28 rfl (lv_at hl 1 rfl) ?_
    refine lv_iload_n F.1 F.2.1 dX9_code_29 rfl (lv_at hl 2 rfl) ?_
    obtain ⟨g1, hs⟩ := gd_some hs
    obtain ⟨M1, eM1, hs⟩ := lt_some hs
    refine x_iast F hq hP hS (arM_1 G q) g1 eM1 dX9_code_30 (fun H locs hP hS => ?_)
    refine lv_iconst (v := 1) F.1 F.2.1 dX9_code_31 rfl ?_
    cases hs
    exact x_iret F rfl rfl hP hS dX9_code_32
  have hs := it_t c2 hs
  refine lv_iconst (v := (-1)) F.1 F.2.1 dX9_code_22 rfl ?_
  cases hs
  exact x_iret F rfl rfl hP hS dX9_code_23

def pX9_codes_b30 : Nat → St → Int32 → Int64 → Int32 → Int32 → Option (Int32 × St)
  | 0, _, _, _, _, _ => none
  | n + 1, M, x1, x2, x4, x5 =>
    if x4 ≤ x5 then
      some (1, M)
    else
      gd (inb (x1 + x5) 512) <|
      lt (up2 M 1 (ix (x1 + x5)) (((x2 >>> ((8 * ((x4 - 1) - x5)).toInt64 &&& 63)) &&& 255).toInt32)) fun M1 =>
      pX9_codes_b30 n M1 x1 x2 x4 (x5 + 1)
def pX9_codes (M : St) (x1 : Int32) (x2 : Int64) (x4 : Int32) : Option (Int32 × St) :=
  bn (pX9_isIn x4 1 8) fun r1 =>
  if r1 = 0 then
    some ((-1), M)
  else
    bn (pX9_isIn x1 0 (512 - x4)) fun r2 =>
    if r2 = 0 then
      some ((-1), M)
    else
      pX9_codes_b30 LF M x1 x2 x4 0
set_option maxHeartbeats 4000000 in
set_option maxRecDepth 100000 in
theorem tX9_codes_b30 (n : Nat) {G : zG} {A : Nat → Prop} {q : Nat → Nat} (hq : zQD A 21 q) {M' : St} {r : Int32} : ∀ {M : St} {x1 : Int32} {x2 : Int64} {x4 : Int32} {x5 : Int32} (hs : pX9_codes_b30 n M x1 x2 x4 x5 = some (r, M')) {p : Program} {l : Launch} {e : Env} {s : State} {m : MethodId} {args : Array Value} {below : List Frame} {meth : Method} {c : Code} {H : Heap} {locs : List Loc} {ls : Array Slot} (F : zFx p s m args meth c cX9_codes RX9 6 (some .int) G A) (hP : (zP G.1 21 q (eM G q) M) H) (hS : va_S A s.heap H locs) (hl : lv_has ls 6 [(0, .ref (q 0)), (1, .int x1), (2, .long x2), (4, .int x4), (5, .int x5)]), W p l e { frames := 1, cells := 0, slots := 0, locals := 22 } s m args below meth c H locs 0 0 (MQ below (va_Qi (fun (r' : Int32) (_ : Unit) => r' = r) (fun _ U => (zP G.1 21 q (eM G q) M') U.heap) A) args s 0 0 A) (F0 m 30 ls []) := by
  induction n with
  | zero =>
    intro M x1 x2 x4 x5 hs p l e s m args below meth c H locs ls F hP hS hl
    rw [pX9_codes_b30] at hs
    cases hs
  | succ n ih =>
    intro M x1 x2 x4 x5 hs p l e s m args below meth c H locs ls F hP hS hl
    rw [pX9_codes_b30] at hs
    refine lv_iload F.1 F.2.1 dX9_codes_30 (lv_at hl 4 rfl) ?_
    refine lv_iload F.1 F.2.1 dX9_codes_32 (lv_at hl 3 rfl) ?_
    refine lv_icmp_ge (tgt := 69) F.1 F.2.1 dX9_codes_34 (by decide) (fun c1 => ?_) (fun c1 => ?_)
    · have hs := it_t c1 hs
      refine lv_iconst (v := 1) F.1 F.2.1 dX9_codes_69 rfl ?_
      cases hs
      exact x_iret F rfl rfl hP hS dX9_codes_70
    have hs := it_f c1 hs
    refine lv_aload_n F.1 F.2.1 dX9_codes_37 rfl (lv_at hl 0 rfl) ?_
    refine gM_X9_7 F hP dX9_codes_38 ?_
    refine lv_iload_n F.1 F.2.1 dX9_codes_41 rfl (lv_at hl 1 rfl) ?_
    refine lv_iload F.1 F.2.1 dX9_codes_42 (lv_at hl 4 rfl) ?_
    refine lv_iadd F.1 F.2.1 dX9_codes_44 ?_
    refine lv_lload_n F.1 F.2.1 dX9_codes_45 rfl (lv_at hl 2 rfl) ?_
    refine lv_bipush (v := 8) F.1 F.2.1 dX9_codes_46 rfl ?_
    refine lv_iload F.1 F.2.1 dX9_codes_48 (lv_at hl 3 rfl) ?_
    refine lv_iconst (v := 1) F.1 F.2.1 dX9_codes_50 rfl ?_
    refine lv_isub F.1 F.2.1 dX9_codes_51 ?_
    refine lv_iload F.1 F.2.1 dX9_codes_52 (lv_at hl 4 rfl) ?_
    refine lv_isub F.1 F.2.1 dX9_codes_54 ?_
    refine lv_imul F.1 F.2.1 dX9_codes_55 ?_
    refine lv_lshr F.1 F.2.1 dX9_codes_56 rfl ?_
    refine lv_ldc2 (v := 255) F.1 F.2.1 F.2.2.2.1 (F.ws m_2_228) dX9_codes_57 ?_
    refine lv_land F.1 F.2.1 dX9_codes_60 ?_
    refine lv_l2i F.1 F.2.1 dX9_codes_61 rfl ?_
    obtain ⟨g1, hs⟩ := gd_some hs
    obtain ⟨M1, eM1, hs⟩ := lt_some hs
    refine x_iast F hq hP hS (arM_1 G q) g1 eM1 dX9_codes_62 (fun H locs hP hS => ?_)
    refine lv_iinc (v := x5 + 1) (lv' := [(5, .int (x5 + 1)), (0, .ref (q 0)), (1, .int x1), (2, .long x2), (4, .int x4)]) F.1 F.2.1 dX9_codes_63 hl (k := 4) rfl rfl (by decide) rfl (fun ls hl => ?_)
    refine lv_goto (tgt := 30) F.1 F.2.1 dX9_codes_66 (by decide) ?_
    exact ih hs F hP hS (lv_sub hl [1, 2, 3, 4, 0] rfl)
set_option maxHeartbeats 4000000 in
set_option maxRecDepth 100000 in
theorem tX9_codes (l : Launch) (G : zG) (A : Nat → Prop) (q : Nat → Nat) (hq : zQD A 21 q) {M M' : St} {r : Int32} {x1 : Int32} {x2 : Int64} {x4 : Int32} (hs : pX9_codes M x1 x2 x4 = some (r, M')) : zKI l yX9_codes cX9_codes 6 (some .int) 1 22 G A (zP G.1 21 q (eM G q) M) [.ref (q 0), .int x1, .long x2, .int x4] r (zP G.1 21 q (eM G q) M') := by
  refine zKI_of (by decide) (Nat.le_of_ble_eq_true rfl) (fun p e s m args below meth c H ls F hH hP hl => ?_)
  have F : zFx p s m args meth c cX9_codes RX9 6 (some .int) G A := F
  have hS : va_S A s.heap H [] := hH ▸ va_S.rf
  have hl : lv_has ls 6 [(0, .ref (q 0)), (1, .int x1), (2, .long x2), (4, .int x4)] := hl
  rw [pX9_codes] at hs
  refine lv_iload F.1 F.2.1 dX9_codes_0 (lv_at hl 3 rfl) ?_
  refine lv_iconst (v := 1) F.1 F.2.1 dX9_codes_2 rfl ?_
  refine lv_bipush (v := 8) F.1 F.2.1 dX9_codes_3 rfl ?_
  obtain ⟨r1, h1, hs⟩ := bn_some hs
  refine x_callSI (rest := []) wv_X9_89 F hS (fun _ h => h) hS.2.1 (tX9_isIn l G A (zP G.1 21 q (eM G q) M) h1) hP rfl hl.1 rfl ⟨Nat.le_of_ble_eq_true rfl, Nat.le_of_ble_eq_true rfl⟩ ⟨Nat.le_refl _, Nat.le_refl _⟩ (Nat.le_of_ble_eq_true rfl) dX9_codes_5 (fun H locs hP hS _ _ => ?_)
  refine lv_if_eq (tgt := 25) F.1 F.2.1 dX9_codes_8 (by decide) (fun c1 => ?_) (fun c1 => ?_)
  · have hs := it_t c1 hs
    refine lv_iconst (v := (-1)) F.1 F.2.1 dX9_codes_25 rfl ?_
    cases hs
    exact x_iret F rfl rfl hP hS dX9_codes_26
  have hs := it_f c1 hs
  refine lv_iload_n F.1 F.2.1 dX9_codes_11 rfl (lv_at hl 1 rfl) ?_
  refine lv_iconst (v := 0) F.1 F.2.1 dX9_codes_12 rfl ?_
  refine lv_sipush (v := 512) F.1 F.2.1 dX9_codes_13 rfl ?_
  refine lv_iload F.1 F.2.1 dX9_codes_16 (lv_at hl 3 rfl) ?_
  refine lv_isub F.1 F.2.1 dX9_codes_18 ?_
  obtain ⟨r2, h2, hs⟩ := bn_some hs
  refine x_callSI (rest := []) wv_X9_89 F hS (fun _ h => h) hS.2.1 (tX9_isIn l G A (zP G.1 21 q (eM G q) M) h2) hP rfl hl.1 rfl ⟨Nat.le_of_ble_eq_true rfl, Nat.le_of_ble_eq_true rfl⟩ ⟨Nat.le_refl _, Nat.le_refl _⟩ (Nat.le_of_ble_eq_true rfl) dX9_codes_19 (fun H locs hP hS _ _ => ?_)
  refine lv_if_ne (tgt := 27) F.1 F.2.1 dX9_codes_22 (by decide) (fun c2 => ?_) (fun c2 => ?_)
  · have hs := it_f c2 hs
    refine lv_iconst (v := 0) F.1 F.2.1 dX9_codes_27 rfl ?_
    refine lv_istore (lv' := [(5, .int 0), (0, .ref (q 0)), (1, .int x1), (2, .long x2), (4, .int x4)]) F.1 F.2.1 dX9_codes_28 hl (by decide) rfl (fun ls hl => ?_)
    exact tX9_codes_b30 LF hq hs F hP hS (lv_sub hl [1, 2, 3, 4, 0] rfl)
  have hs := it_t c2 hs
  refine lv_iconst (v := (-1)) F.1 F.2.1 dX9_codes_25 rfl ?_
  cases hs
  exact x_iret F rfl rfl hP hS dX9_codes_26

def pX9_method (M : St) (x1 : Int32) (x2 : Int32) (x3 : Int32) (x4 : Int32) : Option (Int32 × St) :=
  bn (pX9_isIn x1 0 15) fun r1 =>
  if r1 = 0 then
    some ((-1), M)
  else
    bn (pX9_isIn x2 0 3) fun r2 =>
    if r2 = 0 then
      some ((-1), M)
    else
      bn (pX9_isIn x3 0 511) fun r3 =>
      if r3 = 0 then
        some ((-1), M)
      else
        gd (inb x1 16) <|
        lt (up2 M 2 (ix x1) x2) fun M1 =>
        gd (inb x1 16) <|
        lt (up2 M1 3 (ix x1) x3) fun M2 =>
        gd (inb x1 16) <|
        gd (isb x4) <|
        lt (up2 M2 4 (ix x1) x4) fun M3 =>
        some (1, M3)
set_option maxHeartbeats 4000000 in
set_option maxRecDepth 100000 in
theorem tX9_method (l : Launch) (G : zG) (A : Nat → Prop) (q : Nat → Nat) (hq : zQD A 21 q) {M M' : St} {r : Int32} {x1 : Int32} {x2 : Int32} {x3 : Int32} {x4 : Int32} (hs : pX9_method M x1 x2 x3 x4 = some (r, M')) : zKI l yX9_method cX9_method 5 (some .int) 1 22 G A (zP G.1 21 q (eM G q) M) [.ref (q 0), .int x1, .int x2, .int x3, .int x4] r (zP G.1 21 q (eM G q) M') := by
  refine zKI_of (by decide) (Nat.le_of_ble_eq_true rfl) (fun p e s m args below meth c H ls F hH hP hl => ?_)
  have F : zFx p s m args meth c cX9_method RX9 5 (some .int) G A := F
  have hS : va_S A s.heap H [] := hH ▸ va_S.rf
  have hl : lv_has ls 5 [(0, .ref (q 0)), (1, .int x1), (2, .int x2), (3, .int x3), (4, .int x4)] := hl
  rw [pX9_method] at hs
  refine lv_iload_n F.1 F.2.1 dX9_method_0 rfl (lv_at hl 1 rfl) ?_
  refine lv_iconst (v := 0) F.1 F.2.1 dX9_method_1 rfl ?_
  refine lv_bipush (v := 15) F.1 F.2.1 dX9_method_2 rfl ?_
  obtain ⟨r1, h1, hs⟩ := bn_some hs
  refine x_callSI (rest := []) wv_X9_89 F hS (fun _ h => h) hS.2.1 (tX9_isIn l G A (zP G.1 21 q (eM G q) M) h1) hP rfl hl.1 rfl ⟨Nat.le_of_ble_eq_true rfl, Nat.le_of_ble_eq_true rfl⟩ ⟨Nat.le_refl _, Nat.le_refl _⟩ (Nat.le_of_ble_eq_true rfl) dX9_method_4 (fun H locs hP hS _ _ => ?_)
  refine lv_if_eq (tgt := 30) F.1 F.2.1 dX9_method_7 (by decide) (fun c1 => ?_) (fun c1 => ?_)
  · have hs := it_t c1 hs
    refine lv_iconst (v := (-1)) F.1 F.2.1 dX9_method_30 rfl ?_
    cases hs
    exact x_iret F rfl rfl hP hS dX9_method_31
  have hs := it_f c1 hs
  refine lv_iload_n F.1 F.2.1 dX9_method_10 rfl (lv_at hl 2 rfl) ?_
  refine lv_iconst (v := 0) F.1 F.2.1 dX9_method_11 rfl ?_
  refine lv_iconst (v := 3) F.1 F.2.1 dX9_method_12 rfl ?_
  obtain ⟨r2, h2, hs⟩ := bn_some hs
  refine x_callSI (rest := []) wv_X9_89 F hS (fun _ h => h) hS.2.1 (tX9_isIn l G A (zP G.1 21 q (eM G q) M) h2) hP rfl hl.1 rfl ⟨Nat.le_of_ble_eq_true rfl, Nat.le_of_ble_eq_true rfl⟩ ⟨Nat.le_refl _, Nat.le_refl _⟩ (Nat.le_of_ble_eq_true rfl) dX9_method_13 (fun H locs hP hS _ _ => ?_)
  refine lv_if_eq (tgt := 30) F.1 F.2.1 dX9_method_16 (by decide) (fun c2 => ?_) (fun c2 => ?_)
  · have hs := it_t c2 hs
    refine lv_iconst (v := (-1)) F.1 F.2.1 dX9_method_30 rfl ?_
    cases hs
    exact x_iret F rfl rfl hP hS dX9_method_31
  have hs := it_f c2 hs
  refine lv_iload_n F.1 F.2.1 dX9_method_19 rfl (lv_at hl 3 rfl) ?_
  refine lv_iconst (v := 0) F.1 F.2.1 dX9_method_20 rfl ?_
  refine lv_sipush (v := 511) F.1 F.2.1 dX9_method_21 rfl ?_
  obtain ⟨r3, h3, hs⟩ := bn_some hs
  refine x_callSI (rest := []) wv_X9_89 F hS (fun _ h => h) hS.2.1 (tX9_isIn l G A (zP G.1 21 q (eM G q) M) h3) hP rfl hl.1 rfl ⟨Nat.le_of_ble_eq_true rfl, Nat.le_of_ble_eq_true rfl⟩ ⟨Nat.le_refl _, Nat.le_refl _⟩ (Nat.le_of_ble_eq_true rfl) dX9_method_24 (fun H locs hP hS _ _ => ?_)
  refine lv_if_ne (tgt := 32) F.1 F.2.1 dX9_method_27 (by decide) (fun c3 => ?_) (fun c3 => ?_)
  · have hs := it_f c3 hs
    refine lv_aload_n F.1 F.2.1 dX9_method_32 rfl (lv_at hl 0 rfl) ?_
    refine gM_X9_13 F hP dX9_method_33 ?_
    refine lv_iload_n F.1 F.2.1 dX9_method_36 rfl (lv_at hl 1 rfl) ?_
    refine lv_iload_n F.1 F.2.1 dX9_method_37 rfl (lv_at hl 2 rfl) ?_
    obtain ⟨g1, hs⟩ := gd_some hs
    obtain ⟨M1, eM1, hs⟩ := lt_some hs
    refine x_iast F hq hP hS (arM_2 G q) g1 eM1 dX9_method_38 (fun H locs hP hS => ?_)
    refine lv_aload_n F.1 F.2.1 dX9_method_39 rfl (lv_at hl 0 rfl) ?_
    refine gM_X9_16 F hP dX9_method_40 ?_
    refine lv_iload_n F.1 F.2.1 dX9_method_43 rfl (lv_at hl 1 rfl) ?_
    refine lv_iload_n F.1 F.2.1 dX9_method_44 rfl (lv_at hl 3 rfl) ?_
    obtain ⟨g2, hs⟩ := gd_some hs
    obtain ⟨M2, eM2, hs⟩ := lt_some hs
    refine x_iast F hq hP hS (arM_3 G q) g2 eM2 dX9_method_45 (fun H locs hP hS => ?_)
    refine lv_aload_n F.1 F.2.1 dX9_method_46 rfl (lv_at hl 0 rfl) ?_
    refine gM_X9_19 F hP dX9_method_47 ?_
    refine lv_iload_n F.1 F.2.1 dX9_method_50 rfl (lv_at hl 1 rfl) ?_
    refine lv_iload F.1 F.2.1 dX9_method_51 (lv_at hl 4 rfl) ?_
    obtain ⟨g3, hs⟩ := gd_some hs
    obtain ⟨g4, hs⟩ := gd_some hs
    obtain ⟨M3, eM3, hs⟩ := lt_some hs
    refine x_zast F hq hP hS (arM_4 G q) g3 g4 eM3 dX9_method_53 (fun H locs hP hS => ?_)
    refine lv_iconst (v := 1) F.1 F.2.1 dX9_method_54 rfl ?_
    cases hs
    exact x_iret F rfl rfl hP hS dX9_method_55
  have hs := it_t c3 hs
  refine lv_iconst (v := (-1)) F.1 F.2.1 dX9_method_30 rfl ?_
  cases hs
  exact x_iret F rfl rfl hP hS dX9_method_31

def pX9_type (M : St) (x1 : Int32) : Option (Int32 × St) :=
  bn (pX9_isIn x1 0 255) fun r1 =>
  if r1 = 0 then
    some ((-1), M)
  else
    if M 0 21 = 32 then
      some ((-3), M)
    else
      gd (inb (M 0 21) 32) <|
      lt (up2 M 12 (ix (M 0 21)) x1) fun M1 =>
      lt (up2 M1 0 21 ((M1 0 21) + 1)) fun M2 =>
      some (M2 0 21, M2)
set_option maxHeartbeats 4000000 in
set_option maxRecDepth 100000 in
theorem tX9_type (l : Launch) (G : zG) (A : Nat → Prop) (q : Nat → Nat) (hq : zQD A 21 q) {M M' : St} {r : Int32} {x1 : Int32} (hs : pX9_type M x1 = some (r, M')) : zKI l yX9_type cX9_type 2 (some .int) 1 22 G A (zP G.1 21 q (eM G q) M) [.ref (q 0), .int x1] r (zP G.1 21 q (eM G q) M') := by
  refine zKI_of (by decide) (Nat.le_of_ble_eq_true rfl) (fun p e s m args below meth c H ls F hH hP hl => ?_)
  have F : zFx p s m args meth c cX9_type RX9 2 (some .int) G A := F
  have hS : va_S A s.heap H [] := hH ▸ va_S.rf
  have hl : lv_has ls 2 [(0, .ref (q 0)), (1, .int x1)] := hl
  rw [pX9_type] at hs
  refine lv_iload_n F.1 F.2.1 dX9_type_0 rfl (lv_at hl 1 rfl) ?_
  refine lv_iconst (v := 0) F.1 F.2.1 dX9_type_1 rfl ?_
  refine lv_sipush (v := 255) F.1 F.2.1 dX9_type_2 rfl ?_
  obtain ⟨r1, h1, hs⟩ := bn_some hs
  refine x_callSI (rest := []) wv_X9_89 F hS (fun _ h => h) hS.2.1 (tX9_isIn l G A (zP G.1 21 q (eM G q) M) h1) hP rfl hl.1 rfl ⟨Nat.le_of_ble_eq_true rfl, Nat.le_of_ble_eq_true rfl⟩ ⟨Nat.le_refl _, Nat.le_refl _⟩ (Nat.le_of_ble_eq_true rfl) dX9_type_5 (fun H locs hP hS _ _ => ?_)
  refine lv_if_ne (tgt := 13) F.1 F.2.1 dX9_type_8 (by decide) (fun c1 => ?_) (fun c1 => ?_)
  · have hs := it_f c1 hs
    refine lv_aload_n F.1 F.2.1 dX9_type_13 rfl (lv_at hl 0 rfl) ?_
    refine gM_X9_95 F hP dX9_type_14 ?_
    refine lv_bipush (v := 32) F.1 F.2.1 dX9_type_17 rfl ?_
    refine lv_icmp_ne (tgt := 25) F.1 F.2.1 dX9_type_19 (by decide) (fun c2 => ?_) (fun c2 => ?_)
    · have hs := it_f c2 hs
      refine lv_aload_n F.1 F.2.1 dX9_type_25 rfl (lv_at hl 0 rfl) ?_
      refine gM_X9_52 F hP dX9_type_26 ?_
      refine lv_aload_n F.1 F.2.1 dX9_type_29 rfl (lv_at hl 0 rfl) ?_
      refine gM_X9_95 F hP dX9_type_30 ?_
      refine lv_iload_n F.1 F.2.1 dX9_type_33 rfl (lv_at hl 1 rfl) ?_
      obtain ⟨g1, hs⟩ := gd_some hs
      obtain ⟨M1, eM1, hs⟩ := lt_some hs
      refine x_iast F hq hP hS (arM_12 G q) g1 eM1 dX9_type_34 (fun H locs hP hS => ?_)
      refine lv_aload_n F.1 F.2.1 dX9_type_35 rfl (lv_at hl 0 rfl) ?_
      refine lv_dup F.1 F.2.1 dX9_type_36 rfl ?_
      refine gM_X9_95 F hP dX9_type_37 ?_
      refine lv_iconst (v := 1) F.1 F.2.1 dX9_type_40 rfl ?_
      refine lv_iadd F.1 F.2.1 dX9_type_41 ?_
      obtain ⟨M2, eM2, hs⟩ := lt_some hs
      refine hM_X9_95 F hq hP hS eM2 dX9_type_42 (fun H locs hP hS => ?_)
      refine lv_aload_n F.1 F.2.1 dX9_type_45 rfl (lv_at hl 0 rfl) ?_
      refine gM_X9_95 F hP dX9_type_46 ?_
      cases hs
      exact x_iret F rfl rfl hP hS dX9_type_49
    have hs := it_t c2 hs
    refine lv_bipush (v := (-3)) F.1 F.2.1 dX9_type_22 rfl ?_
    cases hs
    exact x_iret F rfl rfl hP hS dX9_type_24
  have hs := it_t c1 hs
  refine lv_iconst (v := (-1)) F.1 F.2.1 dX9_type_11 rfl ?_
  cases hs
  exact x_iret F rfl rfl hP hS dX9_type_12

def pX9_top (M : St) : Option Int32 :=
  some ((M 0 24) - 1)
set_option maxHeartbeats 4000000 in
set_option maxRecDepth 100000 in
theorem tX9_top (l : Launch) (G : zG) (A : Nat → Prop) (q : Nat → Nat) (hq : zQD A 21 q) {M : St} {r : Int32} (hs : pX9_top M = some r) : zKI l yX9_top cX9_top 1 (some .int) 0 0 G A (zP G.1 21 q (eM G q) M) [.ref (q 0)] r (zP G.1 21 q (eM G q) M) := by
  refine zKI_of (by decide) (Nat.le_of_ble_eq_true rfl) (fun p e s m args below meth c H ls F hH hP hl => ?_)
  have F : zFx p s m args meth c cX9_top RX9 1 (some .int) G A := F
  have hS : va_S A s.heap H [] := hH ▸ va_S.rf
  have hl : lv_has ls 1 [(0, .ref (q 0))] := hl
  rw [pX9_top] at hs
  refine lv_aload_n F.1 F.2.1 dX9_top_0 rfl (lv_at hl 0 rfl) ?_
  refine gM_X9_98 F hP dX9_top_1 ?_
  refine lv_iconst (v := 1) F.1 F.2.1 dX9_top_4 rfl ?_
  refine lv_isub F.1 F.2.1 dX9_top_5 ?_
  cases hs
  exact x_iret F rfl rfl hP hS dX9_top_6

def pX9_depth (M : St) : Option Int32 :=
  bn (pX9_top M) fun r1 =>
  gd (inb r1 8) <|
  some (M 19 (ix r1))
set_option maxHeartbeats 4000000 in
set_option maxRecDepth 100000 in
theorem tX9_depth (l : Launch) (G : zG) (A : Nat → Prop) (q : Nat → Nat) (hq : zQD A 21 q) {M : St} {r : Int32} (hs : pX9_depth M = some r) : zKI l yX9_depth cX9_depth 1 (some .int) 1 20 G A (zP G.1 21 q (eM G q) M) [.ref (q 0)] r (zP G.1 21 q (eM G q) M) := by
  refine zKI_of (by decide) (Nat.le_of_ble_eq_true rfl) (fun p e s m args below meth c H ls F hH hP hl => ?_)
  have F : zFx p s m args meth c cX9_depth RX9 1 (some .int) G A := F
  have hS : va_S A s.heap H [] := hH ▸ va_S.rf
  have hl : lv_has ls 1 [(0, .ref (q 0))] := hl
  rw [pX9_depth] at hs
  refine lv_aload_n F.1 F.2.1 dX9_depth_0 rfl (lv_at hl 0 rfl) ?_
  refine gM_X9_73 F hP dX9_depth_1 ?_
  refine lv_aload_n F.1 F.2.1 dX9_depth_4 rfl (lv_at hl 0 rfl) ?_
  obtain ⟨r1, h1, hs⟩ := bn_some hs
  refine x_callI (rest := [.ref (q 19)]) wv_X9_101 F hS (fun _ h => h) hS.2.1 (tX9_top l G A q hq h1) hP (x_recv (ci := 7) F hP rfl (by decide) (eM_0 G q _)) rfl hl.1 rfl ⟨Nat.le_of_ble_eq_true rfl, Nat.le_of_ble_eq_true rfl⟩ ⟨Nat.le_refl _, Nat.le_refl _⟩ (Nat.le_of_ble_eq_true rfl) dX9_depth_5 (fun H locs hP hS _ _ => ?_)
  obtain ⟨g1, hs⟩ := gd_some hs
  refine x_iald F hP (arM_19 G q) g1 dX9_depth_8 ?_
  cases hs
  exact x_iret F rfl rfl hP hS dX9_depth_9

def pX9_at (M : St) (x1 : Int32) : Option Int32 :=
  bn (pX9_top M) fun r1 =>
  bn (pX9_depth M) fun r2 =>
  gd (inb ((((16 * r1) + r2) - 1) - x1) 128) <|
  some (M 18 (ix ((((16 * r1) + r2) - 1) - x1)))
set_option maxHeartbeats 4000000 in
set_option maxRecDepth 100000 in
theorem tX9_at (l : Launch) (G : zG) (A : Nat → Prop) (q : Nat → Nat) (hq : zQD A 21 q) {M : St} {r : Int32} {x1 : Int32} (hs : pX9_at M x1 = some r) : zKI l yX9_at cX9_at 2 (some .int) 2 40 G A (zP G.1 21 q (eM G q) M) [.ref (q 0), .int x1] r (zP G.1 21 q (eM G q) M) := by
  refine zKI_of (by decide) (Nat.le_of_ble_eq_true rfl) (fun p e s m args below meth c H ls F hH hP hl => ?_)
  have F : zFx p s m args meth c cX9_at RX9 2 (some .int) G A := F
  have hS : va_S A s.heap H [] := hH ▸ va_S.rf
  have hl : lv_has ls 2 [(0, .ref (q 0)), (1, .int x1)] := hl
  rw [pX9_at] at hs
  refine lv_aload_n F.1 F.2.1 dX9_at_0 rfl (lv_at hl 0 rfl) ?_
  refine gM_X9_70 F hP dX9_at_1 ?_
  refine lv_bipush (v := 16) F.1 F.2.1 dX9_at_4 rfl ?_
  refine lv_aload_n F.1 F.2.1 dX9_at_6 rfl (lv_at hl 0 rfl) ?_
  obtain ⟨r1, h1, hs⟩ := bn_some hs
  refine x_callI (rest := [.int 16, .ref (q 18)]) wv_X9_101 F hS (fun _ h => h) hS.2.1 (tX9_top l G A q hq h1) hP (x_recv (ci := 7) F hP rfl (by decide) (eM_0 G q _)) rfl hl.1 rfl ⟨Nat.le_of_ble_eq_true rfl, Nat.le_of_ble_eq_true rfl⟩ ⟨Nat.le_refl _, Nat.le_refl _⟩ (Nat.le_of_ble_eq_true rfl) dX9_at_7 (fun H locs hP hS _ _ => ?_)
  refine lv_imul F.1 F.2.1 dX9_at_10 ?_
  refine lv_aload_n F.1 F.2.1 dX9_at_11 rfl (lv_at hl 0 rfl) ?_
  obtain ⟨r2, h2, hs⟩ := bn_some hs
  refine x_callI (rest := [.int (16 * r1), .ref (q 18)]) wv_X9_105 F hS (fun _ h => h) hS.2.1 (tX9_depth l G A q hq h2) hP (x_recv (ci := 7) F hP rfl (by decide) (eM_0 G q _)) rfl hl.1 rfl ⟨Nat.le_of_ble_eq_true rfl, Nat.le_of_ble_eq_true rfl⟩ ⟨Nat.le_refl _, Nat.le_refl _⟩ (Nat.le_of_ble_eq_true rfl) dX9_at_12 (fun H locs hP hS _ _ => ?_)
  refine lv_iadd F.1 F.2.1 dX9_at_15 ?_
  refine lv_iconst (v := 1) F.1 F.2.1 dX9_at_16 rfl ?_
  refine lv_isub F.1 F.2.1 dX9_at_17 ?_
  refine lv_iload_n F.1 F.2.1 dX9_at_18 rfl (lv_at hl 1 rfl) ?_
  refine lv_isub F.1 F.2.1 dX9_at_19 ?_
  obtain ⟨g1, hs⟩ := gd_some hs
  refine x_iald F hP (arM_18 G q) g1 dX9_at_20 ?_
  cases hs
  exact x_iret F rfl rfl hP hS dX9_at_21

def pX9_put (M : St) (x1 : Int32) : Option St :=
  bn (pX9_top M) fun r1 =>
  bn (pX9_depth M) fun r2 =>
  gd (inb ((16 * r1) + r2) 128) <|
  lt (up2 M 18 (ix ((16 * r1) + r2)) (x1.toInt16.toInt32)) fun M1 =>
  bn (pX9_top M1) fun r3 =>
  gd (inb r3 8) <|
  gd (inb r3 8) <|
  lt (up2 M1 19 (ix r3) ((M1 19 (ix r3)) + 1)) fun M2 =>
  some M2
set_option maxHeartbeats 4000000 in
set_option maxRecDepth 100000 in
theorem tX9_put (l : Launch) (G : zG) (A : Nat → Prop) (q : Nat → Nat) (hq : zQD A 21 q) {M M' : St} {x1 : Int32} (hs : pX9_put M x1 = some M') : zKV l yX9_put cX9_put 2 2 40 G A (zP G.1 21 q (eM G q) M) [.ref (q 0), .int x1] (zP G.1 21 q (eM G q) M') := by
  refine zKV_of (by decide) (Nat.le_of_ble_eq_true rfl) (fun p e s m args below meth c H ls F hH hP hl => ?_)
  have F : zFx p s m args meth c cX9_put RX9 2 none G A := F
  have hS : va_S A s.heap H [] := hH ▸ va_S.rf
  have hl : lv_has ls 2 [(0, .ref (q 0)), (1, .int x1)] := hl
  rw [pX9_put] at hs
  refine lv_aload_n F.1 F.2.1 dX9_put_0 rfl (lv_at hl 0 rfl) ?_
  refine gM_X9_70 F hP dX9_put_1 ?_
  refine lv_bipush (v := 16) F.1 F.2.1 dX9_put_4 rfl ?_
  refine lv_aload_n F.1 F.2.1 dX9_put_6 rfl (lv_at hl 0 rfl) ?_
  obtain ⟨r1, h1, hs⟩ := bn_some hs
  refine x_callI (rest := [.int 16, .ref (q 18)]) wv_X9_101 F hS (fun _ h => h) hS.2.1 (tX9_top l G A q hq h1) hP (x_recv (ci := 7) F hP rfl (by decide) (eM_0 G q _)) rfl hl.1 rfl ⟨Nat.le_of_ble_eq_true rfl, Nat.le_of_ble_eq_true rfl⟩ ⟨Nat.le_refl _, Nat.le_refl _⟩ (Nat.le_of_ble_eq_true rfl) dX9_put_7 (fun H locs hP hS _ _ => ?_)
  refine lv_imul F.1 F.2.1 dX9_put_10 ?_
  refine lv_aload_n F.1 F.2.1 dX9_put_11 rfl (lv_at hl 0 rfl) ?_
  obtain ⟨r2, h2, hs⟩ := bn_some hs
  refine x_callI (rest := [.int (16 * r1), .ref (q 18)]) wv_X9_105 F hS (fun _ h => h) hS.2.1 (tX9_depth l G A q hq h2) hP (x_recv (ci := 7) F hP rfl (by decide) (eM_0 G q _)) rfl hl.1 rfl ⟨Nat.le_of_ble_eq_true rfl, Nat.le_of_ble_eq_true rfl⟩ ⟨Nat.le_refl _, Nat.le_refl _⟩ (Nat.le_of_ble_eq_true rfl) dX9_put_12 (fun H locs hP hS _ _ => ?_)
  refine lv_iadd F.1 F.2.1 dX9_put_15 ?_
  refine lv_iload_n F.1 F.2.1 dX9_put_16 rfl (lv_at hl 1 rfl) ?_
  refine lv_i2s F.1 F.2.1 dX9_put_17 rfl ?_
  obtain ⟨g1, hs⟩ := gd_some hs
  obtain ⟨M1, eM1, hs⟩ := lt_some hs
  refine x_iast F hq hP hS (arM_18 G q) g1 eM1 dX9_put_18 (fun H locs hP hS => ?_)
  refine lv_aload_n F.1 F.2.1 dX9_put_19 rfl (lv_at hl 0 rfl) ?_
  refine gM_X9_73 F hP dX9_put_20 ?_
  refine lv_aload_n F.1 F.2.1 dX9_put_23 rfl (lv_at hl 0 rfl) ?_
  obtain ⟨r3, h3, hs⟩ := bn_some hs
  refine x_callI (rest := [.ref (q 19)]) wv_X9_101 F hS (fun _ h => h) hS.2.1 (tX9_top l G A q hq h3) hP (x_recv (ci := 7) F hP rfl (by decide) (eM_0 G q _)) rfl hl.1 rfl ⟨Nat.le_of_ble_eq_true rfl, Nat.le_of_ble_eq_true rfl⟩ ⟨Nat.le_refl _, Nat.le_refl _⟩ (Nat.le_of_ble_eq_true rfl) dX9_put_24 (fun H locs hP hS _ _ => ?_)
  refine lv_dup2_11 F.1 F.2.1 dX9_put_27 rfl rfl ?_
  obtain ⟨g2, hs⟩ := gd_some hs
  refine x_iald F hP (arM_19 G q) g2 dX9_put_28 ?_
  refine lv_iconst (v := 1) F.1 F.2.1 dX9_put_29 rfl ?_
  refine lv_iadd F.1 F.2.1 dX9_put_30 ?_
  obtain ⟨g3, hs⟩ := gd_some hs
  obtain ⟨M2, eM2, hs⟩ := lt_some hs
  refine x_iast F hq hP hS (arM_19 G q) g3 eM2 dX9_put_31 (fun H locs hP hS => ?_)
  cases hs
  exact x_vret F hP hS dX9_put_32

def pX9_drop (M : St) (x1 : Int32) : Option St :=
  bn (pX9_top M) fun r1 =>
  gd (inb r1 8) <|
  gd (inb r1 8) <|
  lt (up2 M 19 (ix r1) ((M 19 (ix r1)) - x1)) fun M1 =>
  some M1
set_option maxHeartbeats 4000000 in
set_option maxRecDepth 100000 in
theorem tX9_drop (l : Launch) (G : zG) (A : Nat → Prop) (q : Nat → Nat) (hq : zQD A 21 q) {M M' : St} {x1 : Int32} (hs : pX9_drop M x1 = some M') : zKV l yX9_drop cX9_drop 2 1 20 G A (zP G.1 21 q (eM G q) M) [.ref (q 0), .int x1] (zP G.1 21 q (eM G q) M') := by
  refine zKV_of (by decide) (Nat.le_of_ble_eq_true rfl) (fun p e s m args below meth c H ls F hH hP hl => ?_)
  have F : zFx p s m args meth c cX9_drop RX9 2 none G A := F
  have hS : va_S A s.heap H [] := hH ▸ va_S.rf
  have hl : lv_has ls 2 [(0, .ref (q 0)), (1, .int x1)] := hl
  rw [pX9_drop] at hs
  refine lv_aload_n F.1 F.2.1 dX9_drop_0 rfl (lv_at hl 0 rfl) ?_
  refine gM_X9_73 F hP dX9_drop_1 ?_
  refine lv_aload_n F.1 F.2.1 dX9_drop_4 rfl (lv_at hl 0 rfl) ?_
  obtain ⟨r1, h1, hs⟩ := bn_some hs
  refine x_callI (rest := [.ref (q 19)]) wv_X9_101 F hS (fun _ h => h) hS.2.1 (tX9_top l G A q hq h1) hP (x_recv (ci := 7) F hP rfl (by decide) (eM_0 G q _)) rfl hl.1 rfl ⟨Nat.le_of_ble_eq_true rfl, Nat.le_of_ble_eq_true rfl⟩ ⟨Nat.le_refl _, Nat.le_refl _⟩ (Nat.le_of_ble_eq_true rfl) dX9_drop_5 (fun H locs hP hS _ _ => ?_)
  refine lv_dup2_11 F.1 F.2.1 dX9_drop_8 rfl rfl ?_
  obtain ⟨g1, hs⟩ := gd_some hs
  refine x_iald F hP (arM_19 G q) g1 dX9_drop_9 ?_
  refine lv_iload_n F.1 F.2.1 dX9_drop_10 rfl (lv_at hl 1 rfl) ?_
  refine lv_isub F.1 F.2.1 dX9_drop_11 ?_
  obtain ⟨g2, hs⟩ := gd_some hs
  obtain ⟨M1, eM1, hs⟩ := lt_some hs
  refine x_iast F hq hP hS (arM_19 G q) g2 eM1 dX9_drop_12 (fun H locs hP hS => ?_)
  cases hs
  exact x_vret F hP hS dX9_drop_13

def pX9_here (M : St) : Option Int32 :=
  bn (pX9_top M) fun r1 =>
  gd (inb r1 8) <|
  some (M 15 (ix r1))
set_option maxHeartbeats 4000000 in
set_option maxRecDepth 100000 in
theorem tX9_here (l : Launch) (G : zG) (A : Nat → Prop) (q : Nat → Nat) (hq : zQD A 21 q) {M : St} {r : Int32} (hs : pX9_here M = some r) : zKI l yX9_here cX9_here 1 (some .int) 1 20 G A (zP G.1 21 q (eM G q) M) [.ref (q 0)] r (zP G.1 21 q (eM G q) M) := by
  refine zKI_of (by decide) (Nat.le_of_ble_eq_true rfl) (fun p e s m args below meth c H ls F hH hP hl => ?_)
  have F : zFx p s m args meth c cX9_here RX9 1 (some .int) G A := F
  have hS : va_S A s.heap H [] := hH ▸ va_S.rf
  have hl : lv_has ls 1 [(0, .ref (q 0))] := hl
  rw [pX9_here] at hs
  refine lv_aload_n F.1 F.2.1 dX9_here_0 rfl (lv_at hl 0 rfl) ?_
  refine gM_X9_61 F hP dX9_here_1 ?_
  refine lv_aload_n F.1 F.2.1 dX9_here_4 rfl (lv_at hl 0 rfl) ?_
  obtain ⟨r1, h1, hs⟩ := bn_some hs
  refine x_callI (rest := [.ref (q 15)]) wv_X9_101 F hS (fun _ h => h) hS.2.1 (tX9_top l G A q hq h1) hP (x_recv (ci := 7) F hP rfl (by decide) (eM_0 G q _)) rfl hl.1 rfl ⟨Nat.le_of_ble_eq_true rfl, Nat.le_of_ble_eq_true rfl⟩ ⟨Nat.le_refl _, Nat.le_refl _⟩ (Nat.le_of_ble_eq_true rfl) dX9_here_5 (fun H locs hP hS _ _ => ?_)
  obtain ⟨g1, hs⟩ := gd_some hs
  refine x_iald F hP (arM_15 G q) g1 dX9_here_8 ?_
  cases hs
  exact x_iret F rfl rfl hP hS dX9_here_9

def pX9_byteAt (M : St) (x1 : Int32) : Option Int32 :=
  bn (pX9_here M) fun r1 =>
  gd (inb (r1 + x1) 512) <|
  some (M 1 (ix (r1 + x1)))
set_option maxHeartbeats 4000000 in
set_option maxRecDepth 100000 in
theorem tX9_byteAt (l : Launch) (G : zG) (A : Nat → Prop) (q : Nat → Nat) (hq : zQD A 21 q) {M : St} {r : Int32} {x1 : Int32} (hs : pX9_byteAt M x1 = some r) : zKI l yX9_byteAt cX9_byteAt 2 (some .int) 2 40 G A (zP G.1 21 q (eM G q) M) [.ref (q 0), .int x1] r (zP G.1 21 q (eM G q) M) := by
  refine zKI_of (by decide) (Nat.le_of_ble_eq_true rfl) (fun p e s m args below meth c H ls F hH hP hl => ?_)
  have F : zFx p s m args meth c cX9_byteAt RX9 2 (some .int) G A := F
  have hS : va_S A s.heap H [] := hH ▸ va_S.rf
  have hl : lv_has ls 2 [(0, .ref (q 0)), (1, .int x1)] := hl
  rw [pX9_byteAt] at hs
  refine lv_aload_n F.1 F.2.1 dX9_byteAt_0 rfl (lv_at hl 0 rfl) ?_
  refine gM_X9_7 F hP dX9_byteAt_1 ?_
  refine lv_aload_n F.1 F.2.1 dX9_byteAt_4 rfl (lv_at hl 0 rfl) ?_
  obtain ⟨r1, h1, hs⟩ := bn_some hs
  refine x_callI (rest := [.ref (q 1)]) wv_X9_108 F hS (fun _ h => h) hS.2.1 (tX9_here l G A q hq h1) hP (x_recv (ci := 7) F hP rfl (by decide) (eM_0 G q _)) rfl hl.1 rfl ⟨Nat.le_of_ble_eq_true rfl, Nat.le_of_ble_eq_true rfl⟩ ⟨Nat.le_refl _, Nat.le_refl _⟩ (Nat.le_of_ble_eq_true rfl) dX9_byteAt_5 (fun H locs hP hS _ _ => ?_)
  refine lv_iload_n F.1 F.2.1 dX9_byteAt_8 rfl (lv_at hl 1 rfl) ?_
  refine lv_iadd F.1 F.2.1 dX9_byteAt_9 ?_
  obtain ⟨g1, hs⟩ := gd_some hs
  refine x_iald F hP (arM_1 G q) g1 dX9_byteAt_10 ?_
  cases hs
  exact x_iret F rfl rfl hP hS dX9_byteAt_11

def pX9_signed (M : St) (x1 : Int32) : Option Int32 :=
  bn (pX9_byteAt M x1) fun r1 =>
  some (r1.toInt8.toInt32)
set_option maxHeartbeats 4000000 in
set_option maxRecDepth 100000 in
theorem tX9_signed (l : Launch) (G : zG) (A : Nat → Prop) (q : Nat → Nat) (hq : zQD A 21 q) {M : St} {r : Int32} {x1 : Int32} (hs : pX9_signed M x1 = some r) : zKI l yX9_signed cX9_signed 2 (some .int) 3 61 G A (zP G.1 21 q (eM G q) M) [.ref (q 0), .int x1] r (zP G.1 21 q (eM G q) M) := by
  refine zKI_of (by decide) (Nat.le_of_ble_eq_true rfl) (fun p e s m args below meth c H ls F hH hP hl => ?_)
  have F : zFx p s m args meth c cX9_signed RX9 2 (some .int) G A := F
  have hS : va_S A s.heap H [] := hH ▸ va_S.rf
  have hl : lv_has ls 2 [(0, .ref (q 0)), (1, .int x1)] := hl
  rw [pX9_signed] at hs
  refine lv_aload_n F.1 F.2.1 dX9_signed_0 rfl (lv_at hl 0 rfl) ?_
  refine lv_iload_n F.1 F.2.1 dX9_signed_1 rfl (lv_at hl 1 rfl) ?_
  obtain ⟨r1, h1, hs⟩ := bn_some hs
  refine x_callI (rest := []) wv_X9_111 F hS (fun _ h => h) hS.2.1 (tX9_byteAt l G A q hq h1) hP (x_recv (ci := 7) F hP rfl (by decide) (eM_0 G q _)) rfl hl.1 rfl ⟨Nat.le_of_ble_eq_true rfl, Nat.le_of_ble_eq_true rfl⟩ ⟨Nat.le_refl _, Nat.le_refl _⟩ (Nat.le_of_ble_eq_true rfl) dX9_signed_2 (fun H locs hP hS _ _ => ?_)
  refine lv_i2b F.1 F.2.1 dX9_signed_5 rfl ?_
  cases hs
  exact x_iret F rfl rfl hP hS dX9_signed_6

def pX9_on (M : St) (x1 : Int32) : Option St :=
  bn (pX9_top M) fun r1 =>
  bn (pX9_here M) fun r2 =>
  gd (inb r1 8) <|
  lt (up2 M 15 (ix r1) (r2 + x1)) fun M1 =>
  some M1
set_option maxHeartbeats 4000000 in
set_option maxRecDepth 100000 in
theorem tX9_on (l : Launch) (G : zG) (A : Nat → Prop) (q : Nat → Nat) (hq : zQD A 21 q) {M M' : St} {x1 : Int32} (hs : pX9_on M x1 = some M') : zKV l yX9_on cX9_on 2 2 40 G A (zP G.1 21 q (eM G q) M) [.ref (q 0), .int x1] (zP G.1 21 q (eM G q) M') := by
  refine zKV_of (by decide) (Nat.le_of_ble_eq_true rfl) (fun p e s m args below meth c H ls F hH hP hl => ?_)
  have F : zFx p s m args meth c cX9_on RX9 2 none G A := F
  have hS : va_S A s.heap H [] := hH ▸ va_S.rf
  have hl : lv_has ls 2 [(0, .ref (q 0)), (1, .int x1)] := hl
  rw [pX9_on] at hs
  refine lv_aload_n F.1 F.2.1 dX9_on_0 rfl (lv_at hl 0 rfl) ?_
  refine gM_X9_61 F hP dX9_on_1 ?_
  refine lv_aload_n F.1 F.2.1 dX9_on_4 rfl (lv_at hl 0 rfl) ?_
  obtain ⟨r1, h1, hs⟩ := bn_some hs
  refine x_callI (rest := [.ref (q 15)]) wv_X9_101 F hS (fun _ h => h) hS.2.1 (tX9_top l G A q hq h1) hP (x_recv (ci := 7) F hP rfl (by decide) (eM_0 G q _)) rfl hl.1 rfl ⟨Nat.le_of_ble_eq_true rfl, Nat.le_of_ble_eq_true rfl⟩ ⟨Nat.le_refl _, Nat.le_refl _⟩ (Nat.le_of_ble_eq_true rfl) dX9_on_5 (fun H locs hP hS _ _ => ?_)
  refine lv_aload_n F.1 F.2.1 dX9_on_8 rfl (lv_at hl 0 rfl) ?_
  obtain ⟨r2, h2, hs⟩ := bn_some hs
  refine x_callI (rest := [.int r1, .ref (q 15)]) wv_X9_108 F hS (fun _ h => h) hS.2.1 (tX9_here l G A q hq h2) hP (x_recv (ci := 7) F hP rfl (by decide) (eM_0 G q _)) rfl hl.1 rfl ⟨Nat.le_of_ble_eq_true rfl, Nat.le_of_ble_eq_true rfl⟩ ⟨Nat.le_refl _, Nat.le_refl _⟩ (Nat.le_of_ble_eq_true rfl) dX9_on_9 (fun H locs hP hS _ _ => ?_)
  refine lv_iload_n F.1 F.2.1 dX9_on_12 rfl (lv_at hl 1 rfl) ?_
  refine lv_iadd F.1 F.2.1 dX9_on_13 ?_
  obtain ⟨g1, hs⟩ := gd_some hs
  obtain ⟨M1, eM1, hs⟩ := lt_some hs
  refine x_iast F hq hP hS (arM_15 G q) g1 eM1 dX9_on_14 (fun H locs hP hS => ?_)
  cases hs
  exact x_vret F hP hS dX9_on_15

def pX9_enter_b52 : Nat → St → Int32 → Option St
  | 0, _, _ => none
  | n + 1, M, x2 =>
    if 8 ≤ x2 then
      lt (up2 M 0 24 ((M 0 24) + 1)) fun M1 =>
      some M1
    else
      gd (inb ((8 * (M 0 24)) + x2) 64) <|
      lt (up2 M 17 (ix ((8 * (M 0 24)) + x2)) 0) fun M2 =>
      pX9_enter_b52 n M2 (x2 + 1)
def pX9_enter (M : St) (x1 : Int32) : Option St :=
  gd (inb x1 16) <|
  gd (inb (M 0 24) 8) <|
  lt (up2 M 14 (ix (M 0 24)) (M 2 (ix x1))) fun M1 =>
  gd (inb x1 16) <|
  gd (inb (M1 0 24) 8) <|
  lt (up2 M1 15 (ix (M1 0 24)) (M1 3 (ix x1))) fun M2 =>
  gd (inb (M2 0 24) 8) <|
  lt (up2 M2 16 (ix (M2 0 24)) ((-1))) fun M3 =>
  gd (inb (M3 0 24) 8) <|
  lt (up2 M3 19 (ix (M3 0 24)) 0) fun M4 =>
  pX9_enter_b52 LF M4 0
set_option maxHeartbeats 4000000 in
set_option maxRecDepth 100000 in
theorem tX9_enter_b52 (n : Nat) {G : zG} {A : Nat → Prop} {q : Nat → Nat} (hq : zQD A 21 q) {M' : St} : ∀ {M : St} {x2 : Int32} (hs : pX9_enter_b52 n M x2 = some M') {p : Program} {l : Launch} {e : Env} {s : State} {m : MethodId} {args : Array Value} {below : List Frame} {meth : Method} {c : Code} {H : Heap} {locs : List Loc} {ls : Array Slot} (F : zFx p s m args meth c cX9_enter RX9 3 none G A) (hP : (zP G.1 21 q (eM G q) M) H) (hS : va_S A s.heap H locs) (hl : lv_has ls 3 [(0, .ref (q 0)), (2, .int x2)]), W p l e { frames := 0, cells := 0, slots := 0, locals := 0 } s m args below meth c H locs 0 0 (MQ below (va_Qv (fun (_ : Unit) => True) (fun _ U => (zP G.1 21 q (eM G q) M') U.heap) A) args s 0 0 A) (F0 m 52 ls []) := by
  induction n with
  | zero =>
    intro M x2 hs p l e s m args below meth c H locs ls F hP hS hl
    rw [pX9_enter_b52] at hs
    cases hs
  | succ n ih =>
    intro M x2 hs p l e s m args below meth c H locs ls F hP hS hl
    rw [pX9_enter_b52] at hs
    refine lv_iload_n F.1 F.2.1 dX9_enter_52 rfl (lv_at hl 1 rfl) ?_
    refine lv_bipush (v := 8) F.1 F.2.1 dX9_enter_53 rfl ?_
    refine lv_icmp_ge (tgt := 79) F.1 F.2.1 dX9_enter_55 (by decide) (fun c1 => ?_) (fun c1 => ?_)
    · have hs := it_t c1 hs
      refine lv_aload_n F.1 F.2.1 dX9_enter_79 rfl (lv_at hl 0 rfl) ?_
      refine lv_dup F.1 F.2.1 dX9_enter_80 rfl ?_
      refine gM_X9_98 F hP dX9_enter_81 ?_
      refine lv_iconst (v := 1) F.1 F.2.1 dX9_enter_84 rfl ?_
      refine lv_iadd F.1 F.2.1 dX9_enter_85 ?_
      obtain ⟨M1, eM1, hs⟩ := lt_some hs
      refine hM_X9_98 F hq hP hS eM1 dX9_enter_86 (fun H locs hP hS => ?_)
      cases hs
      exact x_vret F hP hS dX9_enter_89
    have hs := it_f c1 hs
    refine lv_aload_n F.1 F.2.1 dX9_enter_58 rfl (lv_at hl 0 rfl) ?_
    refine gM_X9_67 F hP dX9_enter_59 ?_
    refine lv_bipush (v := 8) F.1 F.2.1 dX9_enter_62 rfl ?_
    refine lv_aload_n F.1 F.2.1 dX9_enter_64 rfl (lv_at hl 0 rfl) ?_
    refine gM_X9_98 F hP dX9_enter_65 ?_
    refine lv_imul F.1 F.2.1 dX9_enter_68 ?_
    refine lv_iload_n F.1 F.2.1 dX9_enter_69 rfl (lv_at hl 1 rfl) ?_
    refine lv_iadd F.1 F.2.1 dX9_enter_70 ?_
    refine lv_iconst (v := 0) F.1 F.2.1 dX9_enter_71 rfl ?_
    obtain ⟨g1, hs⟩ := gd_some hs
    obtain ⟨M2, eM2, hs⟩ := lt_some hs
    refine x_iast F hq hP hS (arM_17 G q) g1 eM2 dX9_enter_72 (fun H locs hP hS => ?_)
    refine lv_iinc (v := x2 + 1) (lv' := [(2, .int (x2 + 1)), (0, .ref (q 0))]) F.1 F.2.1 dX9_enter_73 hl (k := 1) rfl rfl (by decide) rfl (fun ls hl => ?_)
    refine lv_goto (tgt := 52) F.1 F.2.1 dX9_enter_76 (by decide) ?_
    exact ih hs F hP hS (lv_sub hl [1, 0] rfl)
set_option maxHeartbeats 4000000 in
set_option maxRecDepth 100000 in
theorem tX9_enter (l : Launch) (G : zG) (A : Nat → Prop) (q : Nat → Nat) (hq : zQD A 21 q) {M M' : St} {x1 : Int32} (hs : pX9_enter M x1 = some M') : zKV l yX9_enter cX9_enter 3 0 0 G A (zP G.1 21 q (eM G q) M) [.ref (q 0), .int x1] (zP G.1 21 q (eM G q) M') := by
  refine zKV_of (by decide) (Nat.le_of_ble_eq_true rfl) (fun p e s m args below meth c H ls F hH hP hl => ?_)
  have F : zFx p s m args meth c cX9_enter RX9 3 none G A := F
  have hS : va_S A s.heap H [] := hH ▸ va_S.rf
  have hl : lv_has ls 3 [(0, .ref (q 0)), (1, .int x1)] := hl
  rw [pX9_enter] at hs
  refine lv_aload_n F.1 F.2.1 dX9_enter_0 rfl (lv_at hl 0 rfl) ?_
  refine gM_X9_58 F hP dX9_enter_1 ?_
  refine lv_aload_n F.1 F.2.1 dX9_enter_4 rfl (lv_at hl 0 rfl) ?_
  refine gM_X9_98 F hP dX9_enter_5 ?_
  refine lv_aload_n F.1 F.2.1 dX9_enter_8 rfl (lv_at hl 0 rfl) ?_
  refine gM_X9_13 F hP dX9_enter_9 ?_
  refine lv_iload_n F.1 F.2.1 dX9_enter_12 rfl (lv_at hl 1 rfl) ?_
  obtain ⟨g1, hs⟩ := gd_some hs
  refine x_iald F hP (arM_2 G q) g1 dX9_enter_13 ?_
  obtain ⟨g2, hs⟩ := gd_some hs
  obtain ⟨M1, eM1, hs⟩ := lt_some hs
  refine x_iast F hq hP hS (arM_14 G q) g2 eM1 dX9_enter_14 (fun H locs hP hS => ?_)
  refine lv_aload_n F.1 F.2.1 dX9_enter_15 rfl (lv_at hl 0 rfl) ?_
  refine gM_X9_61 F hP dX9_enter_16 ?_
  refine lv_aload_n F.1 F.2.1 dX9_enter_19 rfl (lv_at hl 0 rfl) ?_
  refine gM_X9_98 F hP dX9_enter_20 ?_
  refine lv_aload_n F.1 F.2.1 dX9_enter_23 rfl (lv_at hl 0 rfl) ?_
  refine gM_X9_16 F hP dX9_enter_24 ?_
  refine lv_iload_n F.1 F.2.1 dX9_enter_27 rfl (lv_at hl 1 rfl) ?_
  obtain ⟨g3, hs⟩ := gd_some hs
  refine x_iald F hP (arM_3 G q) g3 dX9_enter_28 ?_
  obtain ⟨g4, hs⟩ := gd_some hs
  obtain ⟨M2, eM2, hs⟩ := lt_some hs
  refine x_iast F hq hP hS (arM_15 G q) g4 eM2 dX9_enter_29 (fun H locs hP hS => ?_)
  refine lv_aload_n F.1 F.2.1 dX9_enter_30 rfl (lv_at hl 0 rfl) ?_
  refine gM_X9_64 F hP dX9_enter_31 ?_
  refine lv_aload_n F.1 F.2.1 dX9_enter_34 rfl (lv_at hl 0 rfl) ?_
  refine gM_X9_98 F hP dX9_enter_35 ?_
  refine lv_iconst (v := (-1)) F.1 F.2.1 dX9_enter_38 rfl ?_
  obtain ⟨g5, hs⟩ := gd_some hs
  obtain ⟨M3, eM3, hs⟩ := lt_some hs
  refine x_iast F hq hP hS (arM_16 G q) g5 eM3 dX9_enter_39 (fun H locs hP hS => ?_)
  refine lv_aload_n F.1 F.2.1 dX9_enter_40 rfl (lv_at hl 0 rfl) ?_
  refine gM_X9_73 F hP dX9_enter_41 ?_
  refine lv_aload_n F.1 F.2.1 dX9_enter_44 rfl (lv_at hl 0 rfl) ?_
  refine gM_X9_98 F hP dX9_enter_45 ?_
  refine lv_iconst (v := 0) F.1 F.2.1 dX9_enter_48 rfl ?_
  obtain ⟨g6, hs⟩ := gd_some hs
  obtain ⟨M4, eM4, hs⟩ := lt_some hs
  refine x_iast F hq hP hS (arM_19 G q) g6 eM4 dX9_enter_49 (fun H locs hP hS => ?_)
  refine lv_iconst (v := 0) F.1 F.2.1 dX9_enter_50 rfl ?_
  refine lv_istore_n (lv' := [(2, .int 0), (0, .ref (q 0)), (1, .int x1)]) F.1 F.2.1 dX9_enter_51 rfl hl (by decide) rfl (fun ls hl => ?_)
  exact tX9_enter_b52 LF hq hs F hP hS (lv_sub hl [1, 0] rfl)

def pX9_length (x0 : Int32) : Option Int32 :=
  if (x0).toInt < 1 ∨ 44 < (x0).toInt then
    some 1
  else
  if (x0) = 1 then
    some 2
  else
  if (x0) = 2 then
    some 3
  else
  if (x0) = 3 then
    some 2
  else
  if (x0) = 4 then
    some 2
  else
  if (x0) = 5 then
    some 3
  else
  if (x0) = 6 then
    some 1
  else
  if (x0) = 7 then
    some 1
  else
  if (x0) = 8 then
    some 1
  else
  if (x0) = 9 then
    some 1
  else
  if (x0) = 10 then
    some 1
  else
  if (x0) = 11 then
    some 1
  else
  if (x0) = 12 then
    some 1
  else
  if (x0) = 13 then
    some 1
  else
  if (x0) = 14 then
    some 1
  else
  if (x0) = 15 then
    some 1
  else
  if (x0) = 16 then
    some 1
  else
  if (x0) = 17 then
    some 1
  else
  if (x0) = 18 then
    some 1
  else
  if (x0) = 19 then
    some 1
  else
  if (x0) = 20 then
    some 1
  else
  if (x0) = 21 then
    some 2
  else
  if (x0) = 22 then
    some 3
  else
  if (x0) = 23 then
    some 3
  else
  if (x0) = 24 then
    some 3
  else
  if (x0) = 25 then
    some 1
  else
  if (x0) = 26 then
    some 1
  else
  if (x0) = 27 then
    some 3
  else
  if (x0) = 28 then
    some 2
  else
  if (x0) = 29 then
    some 2
  else
  if (x0) = 30 then
    some 1
  else
  if (x0) = 31 then
    some 1
  else
  if (x0) = 32 then
    some 1
  else
  if (x0) = 33 then
    some 1
  else
  if (x0) = 34 then
    some 1
  else
  if (x0) = 35 then
    some 1
  else
  if (x0) = 36 then
    some 1
  else
  if (x0) = 37 then
    some 1
  else
  if (x0) = 38 then
    some 1
  else
  if (x0) = 39 then
    some 1
  else
  if (x0) = 40 then
    some 1
  else
  if (x0) = 41 then
    some 1
  else
  if (x0) = 42 then
    some 1
  else
  if (x0) = 43 then
    some 1
  else
  if (x0) = 44 then
    some 2
  else
    none
set_option maxHeartbeats 4000000 in
set_option maxRecDepth 100000 in
theorem tX9_length (l : Launch) (G : zG) (A : Nat → Prop) (P0 : Heap → Prop) {r : Int32} {x0 : Int32} (hs : pX9_length x0 = some r) : zKI l yX9_length cX9_length 1 (some .int) 0 0 G A P0 [.int x0] r P0 := by
  refine zKI_of (by decide) (Nat.le_of_ble_eq_true rfl) (fun p e s m args below meth c H ls F hH hP hl => ?_)
  have F : zFx p s m args meth c cX9_length RX9 1 (some .int) G A := F
  have hS : va_S A s.heap H [] := hH ▸ va_S.rf
  have hl : lv_has ls 1 [(0, .int x0)] := hl
  rw [pX9_length] at hs
  refine lv_iload_n F.1 F.2.1 dX9_length_0 rfl (lv_at hl 0 rfl) ?_
  by_cases c1 : (x0).toInt < 1 ∨ 44 < (x0).toInt
  · have hs := it_t c1 hs
    refine lv_tableOut (tgt := 196) F.1 F.2.1 dX9_length_1 c1 (by decide) ?_
    refine lv_iconst (v := 1) F.1 F.2.1 dX9_length_196 rfl ?_
    cases hs
    exact x_iret F rfl rfl hP hS dX9_length_197
  have hs := it_f c1 hs
  by_cases c2 : (x0) = 1
  · have hs := it_t c2 hs
    refine lv_tableIn (off := 191) (tgt := 192) F.1 F.2.1 dX9_length_1 (by rw [c2]; decide) (by rw [c2]; decide) (by rw [c2]; rfl) (by decide) ?_
    refine lv_iconst (v := 2) F.1 F.2.1 dX9_length_192 rfl ?_
    cases hs
    exact x_iret F rfl rfl hP hS dX9_length_193
  have hs := it_f c2 hs
  by_cases c3 : (x0) = 2
  · have hs := it_t c3 hs
    refine lv_tableIn (off := 193) (tgt := 194) F.1 F.2.1 dX9_length_1 (by rw [c3]; decide) (by rw [c3]; decide) (by rw [c3]; rfl) (by decide) ?_
    refine lv_iconst (v := 3) F.1 F.2.1 dX9_length_194 rfl ?_
    cases hs
    exact x_iret F rfl rfl hP hS dX9_length_195
  have hs := it_f c3 hs
  by_cases c4 : (x0) = 3
  · have hs := it_t c4 hs
    refine lv_tableIn (off := 191) (tgt := 192) F.1 F.2.1 dX9_length_1 (by rw [c4]; decide) (by rw [c4]; decide) (by rw [c4]; rfl) (by decide) ?_
    refine lv_iconst (v := 2) F.1 F.2.1 dX9_length_192 rfl ?_
    cases hs
    exact x_iret F rfl rfl hP hS dX9_length_193
  have hs := it_f c4 hs
  by_cases c5 : (x0) = 4
  · have hs := it_t c5 hs
    refine lv_tableIn (off := 191) (tgt := 192) F.1 F.2.1 dX9_length_1 (by rw [c5]; decide) (by rw [c5]; decide) (by rw [c5]; rfl) (by decide) ?_
    refine lv_iconst (v := 2) F.1 F.2.1 dX9_length_192 rfl ?_
    cases hs
    exact x_iret F rfl rfl hP hS dX9_length_193
  have hs := it_f c5 hs
  by_cases c6 : (x0) = 5
  · have hs := it_t c6 hs
    refine lv_tableIn (off := 193) (tgt := 194) F.1 F.2.1 dX9_length_1 (by rw [c6]; decide) (by rw [c6]; decide) (by rw [c6]; rfl) (by decide) ?_
    refine lv_iconst (v := 3) F.1 F.2.1 dX9_length_194 rfl ?_
    cases hs
    exact x_iret F rfl rfl hP hS dX9_length_195
  have hs := it_f c6 hs
  by_cases c7 : (x0) = 6
  · have hs := it_t c7 hs
    refine lv_tableIn (off := 195) (tgt := 196) F.1 F.2.1 dX9_length_1 (by rw [c7]; decide) (by rw [c7]; decide) (by rw [c7]; rfl) (by decide) ?_
    refine lv_iconst (v := 1) F.1 F.2.1 dX9_length_196 rfl ?_
    cases hs
    exact x_iret F rfl rfl hP hS dX9_length_197
  have hs := it_f c7 hs
  by_cases c8 : (x0) = 7
  · have hs := it_t c8 hs
    refine lv_tableIn (off := 195) (tgt := 196) F.1 F.2.1 dX9_length_1 (by rw [c8]; decide) (by rw [c8]; decide) (by rw [c8]; rfl) (by decide) ?_
    refine lv_iconst (v := 1) F.1 F.2.1 dX9_length_196 rfl ?_
    cases hs
    exact x_iret F rfl rfl hP hS dX9_length_197
  have hs := it_f c8 hs
  by_cases c9 : (x0) = 8
  · have hs := it_t c9 hs
    refine lv_tableIn (off := 195) (tgt := 196) F.1 F.2.1 dX9_length_1 (by rw [c9]; decide) (by rw [c9]; decide) (by rw [c9]; rfl) (by decide) ?_
    refine lv_iconst (v := 1) F.1 F.2.1 dX9_length_196 rfl ?_
    cases hs
    exact x_iret F rfl rfl hP hS dX9_length_197
  have hs := it_f c9 hs
  by_cases c10 : (x0) = 9
  · have hs := it_t c10 hs
    refine lv_tableIn (off := 195) (tgt := 196) F.1 F.2.1 dX9_length_1 (by rw [c10]; decide) (by rw [c10]; decide) (by rw [c10]; rfl) (by decide) ?_
    refine lv_iconst (v := 1) F.1 F.2.1 dX9_length_196 rfl ?_
    cases hs
    exact x_iret F rfl rfl hP hS dX9_length_197
  have hs := it_f c10 hs
  by_cases c11 : (x0) = 10
  · have hs := it_t c11 hs
    refine lv_tableIn (off := 195) (tgt := 196) F.1 F.2.1 dX9_length_1 (by rw [c11]; decide) (by rw [c11]; decide) (by rw [c11]; rfl) (by decide) ?_
    refine lv_iconst (v := 1) F.1 F.2.1 dX9_length_196 rfl ?_
    cases hs
    exact x_iret F rfl rfl hP hS dX9_length_197
  have hs := it_f c11 hs
  by_cases c12 : (x0) = 11
  · have hs := it_t c12 hs
    refine lv_tableIn (off := 195) (tgt := 196) F.1 F.2.1 dX9_length_1 (by rw [c12]; decide) (by rw [c12]; decide) (by rw [c12]; rfl) (by decide) ?_
    refine lv_iconst (v := 1) F.1 F.2.1 dX9_length_196 rfl ?_
    cases hs
    exact x_iret F rfl rfl hP hS dX9_length_197
  have hs := it_f c12 hs
  by_cases c13 : (x0) = 12
  · have hs := it_t c13 hs
    refine lv_tableIn (off := 195) (tgt := 196) F.1 F.2.1 dX9_length_1 (by rw [c13]; decide) (by rw [c13]; decide) (by rw [c13]; rfl) (by decide) ?_
    refine lv_iconst (v := 1) F.1 F.2.1 dX9_length_196 rfl ?_
    cases hs
    exact x_iret F rfl rfl hP hS dX9_length_197
  have hs := it_f c13 hs
  by_cases c14 : (x0) = 13
  · have hs := it_t c14 hs
    refine lv_tableIn (off := 195) (tgt := 196) F.1 F.2.1 dX9_length_1 (by rw [c14]; decide) (by rw [c14]; decide) (by rw [c14]; rfl) (by decide) ?_
    refine lv_iconst (v := 1) F.1 F.2.1 dX9_length_196 rfl ?_
    cases hs
    exact x_iret F rfl rfl hP hS dX9_length_197
  have hs := it_f c14 hs
  by_cases c15 : (x0) = 14
  · have hs := it_t c15 hs
    refine lv_tableIn (off := 195) (tgt := 196) F.1 F.2.1 dX9_length_1 (by rw [c15]; decide) (by rw [c15]; decide) (by rw [c15]; rfl) (by decide) ?_
    refine lv_iconst (v := 1) F.1 F.2.1 dX9_length_196 rfl ?_
    cases hs
    exact x_iret F rfl rfl hP hS dX9_length_197
  have hs := it_f c15 hs
  by_cases c16 : (x0) = 15
  · have hs := it_t c16 hs
    refine lv_tableIn (off := 195) (tgt := 196) F.1 F.2.1 dX9_length_1 (by rw [c16]; decide) (by rw [c16]; decide) (by rw [c16]; rfl) (by decide) ?_
    refine lv_iconst (v := 1) F.1 F.2.1 dX9_length_196 rfl ?_
    cases hs
    exact x_iret F rfl rfl hP hS dX9_length_197
  have hs := it_f c16 hs
  by_cases c17 : (x0) = 16
  · have hs := it_t c17 hs
    refine lv_tableIn (off := 195) (tgt := 196) F.1 F.2.1 dX9_length_1 (by rw [c17]; decide) (by rw [c17]; decide) (by rw [c17]; rfl) (by decide) ?_
    refine lv_iconst (v := 1) F.1 F.2.1 dX9_length_196 rfl ?_
    cases hs
    exact x_iret F rfl rfl hP hS dX9_length_197
  have hs := it_f c17 hs
  by_cases c18 : (x0) = 17
  · have hs := it_t c18 hs
    refine lv_tableIn (off := 195) (tgt := 196) F.1 F.2.1 dX9_length_1 (by rw [c18]; decide) (by rw [c18]; decide) (by rw [c18]; rfl) (by decide) ?_
    refine lv_iconst (v := 1) F.1 F.2.1 dX9_length_196 rfl ?_
    cases hs
    exact x_iret F rfl rfl hP hS dX9_length_197
  have hs := it_f c18 hs
  by_cases c19 : (x0) = 18
  · have hs := it_t c19 hs
    refine lv_tableIn (off := 195) (tgt := 196) F.1 F.2.1 dX9_length_1 (by rw [c19]; decide) (by rw [c19]; decide) (by rw [c19]; rfl) (by decide) ?_
    refine lv_iconst (v := 1) F.1 F.2.1 dX9_length_196 rfl ?_
    cases hs
    exact x_iret F rfl rfl hP hS dX9_length_197
  have hs := it_f c19 hs
  by_cases c20 : (x0) = 19
  · have hs := it_t c20 hs
    refine lv_tableIn (off := 195) (tgt := 196) F.1 F.2.1 dX9_length_1 (by rw [c20]; decide) (by rw [c20]; decide) (by rw [c20]; rfl) (by decide) ?_
    refine lv_iconst (v := 1) F.1 F.2.1 dX9_length_196 rfl ?_
    cases hs
    exact x_iret F rfl rfl hP hS dX9_length_197
  have hs := it_f c20 hs
  by_cases c21 : (x0) = 20
  · have hs := it_t c21 hs
    refine lv_tableIn (off := 195) (tgt := 196) F.1 F.2.1 dX9_length_1 (by rw [c21]; decide) (by rw [c21]; decide) (by rw [c21]; rfl) (by decide) ?_
    refine lv_iconst (v := 1) F.1 F.2.1 dX9_length_196 rfl ?_
    cases hs
    exact x_iret F rfl rfl hP hS dX9_length_197
  have hs := it_f c21 hs
  by_cases c22 : (x0) = 21
  · have hs := it_t c22 hs
    refine lv_tableIn (off := 191) (tgt := 192) F.1 F.2.1 dX9_length_1 (by rw [c22]; decide) (by rw [c22]; decide) (by rw [c22]; rfl) (by decide) ?_
    refine lv_iconst (v := 2) F.1 F.2.1 dX9_length_192 rfl ?_
    cases hs
    exact x_iret F rfl rfl hP hS dX9_length_193
  have hs := it_f c22 hs
  by_cases c23 : (x0) = 22
  · have hs := it_t c23 hs
    refine lv_tableIn (off := 193) (tgt := 194) F.1 F.2.1 dX9_length_1 (by rw [c23]; decide) (by rw [c23]; decide) (by rw [c23]; rfl) (by decide) ?_
    refine lv_iconst (v := 3) F.1 F.2.1 dX9_length_194 rfl ?_
    cases hs
    exact x_iret F rfl rfl hP hS dX9_length_195
  have hs := it_f c23 hs
  by_cases c24 : (x0) = 23
  · have hs := it_t c24 hs
    refine lv_tableIn (off := 193) (tgt := 194) F.1 F.2.1 dX9_length_1 (by rw [c24]; decide) (by rw [c24]; decide) (by rw [c24]; rfl) (by decide) ?_
    refine lv_iconst (v := 3) F.1 F.2.1 dX9_length_194 rfl ?_
    cases hs
    exact x_iret F rfl rfl hP hS dX9_length_195
  have hs := it_f c24 hs
  by_cases c25 : (x0) = 24
  · have hs := it_t c25 hs
    refine lv_tableIn (off := 193) (tgt := 194) F.1 F.2.1 dX9_length_1 (by rw [c25]; decide) (by rw [c25]; decide) (by rw [c25]; rfl) (by decide) ?_
    refine lv_iconst (v := 3) F.1 F.2.1 dX9_length_194 rfl ?_
    cases hs
    exact x_iret F rfl rfl hP hS dX9_length_195
  have hs := it_f c25 hs
  by_cases c26 : (x0) = 25
  · have hs := it_t c26 hs
    refine lv_tableIn (off := 195) (tgt := 196) F.1 F.2.1 dX9_length_1 (by rw [c26]; decide) (by rw [c26]; decide) (by rw [c26]; rfl) (by decide) ?_
    refine lv_iconst (v := 1) F.1 F.2.1 dX9_length_196 rfl ?_
    cases hs
    exact x_iret F rfl rfl hP hS dX9_length_197
  have hs := it_f c26 hs
  by_cases c27 : (x0) = 26
  · have hs := it_t c27 hs
    refine lv_tableIn (off := 195) (tgt := 196) F.1 F.2.1 dX9_length_1 (by rw [c27]; decide) (by rw [c27]; decide) (by rw [c27]; rfl) (by decide) ?_
    refine lv_iconst (v := 1) F.1 F.2.1 dX9_length_196 rfl ?_
    cases hs
    exact x_iret F rfl rfl hP hS dX9_length_197
  have hs := it_f c27 hs
  by_cases c28 : (x0) = 27
  · have hs := it_t c28 hs
    refine lv_tableIn (off := 193) (tgt := 194) F.1 F.2.1 dX9_length_1 (by rw [c28]; decide) (by rw [c28]; decide) (by rw [c28]; rfl) (by decide) ?_
    refine lv_iconst (v := 3) F.1 F.2.1 dX9_length_194 rfl ?_
    cases hs
    exact x_iret F rfl rfl hP hS dX9_length_195
  have hs := it_f c28 hs
  by_cases c29 : (x0) = 28
  · have hs := it_t c29 hs
    refine lv_tableIn (off := 191) (tgt := 192) F.1 F.2.1 dX9_length_1 (by rw [c29]; decide) (by rw [c29]; decide) (by rw [c29]; rfl) (by decide) ?_
    refine lv_iconst (v := 2) F.1 F.2.1 dX9_length_192 rfl ?_
    cases hs
    exact x_iret F rfl rfl hP hS dX9_length_193
  have hs := it_f c29 hs
  by_cases c30 : (x0) = 29
  · have hs := it_t c30 hs
    refine lv_tableIn (off := 191) (tgt := 192) F.1 F.2.1 dX9_length_1 (by rw [c30]; decide) (by rw [c30]; decide) (by rw [c30]; rfl) (by decide) ?_
    refine lv_iconst (v := 2) F.1 F.2.1 dX9_length_192 rfl ?_
    cases hs
    exact x_iret F rfl rfl hP hS dX9_length_193
  have hs := it_f c30 hs
  by_cases c31 : (x0) = 30
  · have hs := it_t c31 hs
    refine lv_tableIn (off := 195) (tgt := 196) F.1 F.2.1 dX9_length_1 (by rw [c31]; decide) (by rw [c31]; decide) (by rw [c31]; rfl) (by decide) ?_
    refine lv_iconst (v := 1) F.1 F.2.1 dX9_length_196 rfl ?_
    cases hs
    exact x_iret F rfl rfl hP hS dX9_length_197
  have hs := it_f c31 hs
  by_cases c32 : (x0) = 31
  · have hs := it_t c32 hs
    refine lv_tableIn (off := 195) (tgt := 196) F.1 F.2.1 dX9_length_1 (by rw [c32]; decide) (by rw [c32]; decide) (by rw [c32]; rfl) (by decide) ?_
    refine lv_iconst (v := 1) F.1 F.2.1 dX9_length_196 rfl ?_
    cases hs
    exact x_iret F rfl rfl hP hS dX9_length_197
  have hs := it_f c32 hs
  by_cases c33 : (x0) = 32
  · have hs := it_t c33 hs
    refine lv_tableIn (off := 195) (tgt := 196) F.1 F.2.1 dX9_length_1 (by rw [c33]; decide) (by rw [c33]; decide) (by rw [c33]; rfl) (by decide) ?_
    refine lv_iconst (v := 1) F.1 F.2.1 dX9_length_196 rfl ?_
    cases hs
    exact x_iret F rfl rfl hP hS dX9_length_197
  have hs := it_f c33 hs
  by_cases c34 : (x0) = 33
  · have hs := it_t c34 hs
    refine lv_tableIn (off := 195) (tgt := 196) F.1 F.2.1 dX9_length_1 (by rw [c34]; decide) (by rw [c34]; decide) (by rw [c34]; rfl) (by decide) ?_
    refine lv_iconst (v := 1) F.1 F.2.1 dX9_length_196 rfl ?_
    cases hs
    exact x_iret F rfl rfl hP hS dX9_length_197
  have hs := it_f c34 hs
  by_cases c35 : (x0) = 34
  · have hs := it_t c35 hs
    refine lv_tableIn (off := 195) (tgt := 196) F.1 F.2.1 dX9_length_1 (by rw [c35]; decide) (by rw [c35]; decide) (by rw [c35]; rfl) (by decide) ?_
    refine lv_iconst (v := 1) F.1 F.2.1 dX9_length_196 rfl ?_
    cases hs
    exact x_iret F rfl rfl hP hS dX9_length_197
  have hs := it_f c35 hs
  by_cases c36 : (x0) = 35
  · have hs := it_t c36 hs
    refine lv_tableIn (off := 195) (tgt := 196) F.1 F.2.1 dX9_length_1 (by rw [c36]; decide) (by rw [c36]; decide) (by rw [c36]; rfl) (by decide) ?_
    refine lv_iconst (v := 1) F.1 F.2.1 dX9_length_196 rfl ?_
    cases hs
    exact x_iret F rfl rfl hP hS dX9_length_197
  have hs := it_f c36 hs
  by_cases c37 : (x0) = 36
  · have hs := it_t c37 hs
    refine lv_tableIn (off := 195) (tgt := 196) F.1 F.2.1 dX9_length_1 (by rw [c37]; decide) (by rw [c37]; decide) (by rw [c37]; rfl) (by decide) ?_
    refine lv_iconst (v := 1) F.1 F.2.1 dX9_length_196 rfl ?_
    cases hs
    exact x_iret F rfl rfl hP hS dX9_length_197
  have hs := it_f c37 hs
  by_cases c38 : (x0) = 37
  · have hs := it_t c38 hs
    refine lv_tableIn (off := 195) (tgt := 196) F.1 F.2.1 dX9_length_1 (by rw [c38]; decide) (by rw [c38]; decide) (by rw [c38]; rfl) (by decide) ?_
    refine lv_iconst (v := 1) F.1 F.2.1 dX9_length_196 rfl ?_
    cases hs
    exact x_iret F rfl rfl hP hS dX9_length_197
  have hs := it_f c38 hs
  by_cases c39 : (x0) = 38
  · have hs := it_t c39 hs
    refine lv_tableIn (off := 195) (tgt := 196) F.1 F.2.1 dX9_length_1 (by rw [c39]; decide) (by rw [c39]; decide) (by rw [c39]; rfl) (by decide) ?_
    refine lv_iconst (v := 1) F.1 F.2.1 dX9_length_196 rfl ?_
    cases hs
    exact x_iret F rfl rfl hP hS dX9_length_197
  have hs := it_f c39 hs
  by_cases c40 : (x0) = 39
  · have hs := it_t c40 hs
    refine lv_tableIn (off := 195) (tgt := 196) F.1 F.2.1 dX9_length_1 (by rw [c40]; decide) (by rw [c40]; decide) (by rw [c40]; rfl) (by decide) ?_
    refine lv_iconst (v := 1) F.1 F.2.1 dX9_length_196 rfl ?_
    cases hs
    exact x_iret F rfl rfl hP hS dX9_length_197
  have hs := it_f c40 hs
  by_cases c41 : (x0) = 40
  · have hs := it_t c41 hs
    refine lv_tableIn (off := 195) (tgt := 196) F.1 F.2.1 dX9_length_1 (by rw [c41]; decide) (by rw [c41]; decide) (by rw [c41]; rfl) (by decide) ?_
    refine lv_iconst (v := 1) F.1 F.2.1 dX9_length_196 rfl ?_
    cases hs
    exact x_iret F rfl rfl hP hS dX9_length_197
  have hs := it_f c41 hs
  by_cases c42 : (x0) = 41
  · have hs := it_t c42 hs
    refine lv_tableIn (off := 195) (tgt := 196) F.1 F.2.1 dX9_length_1 (by rw [c42]; decide) (by rw [c42]; decide) (by rw [c42]; rfl) (by decide) ?_
    refine lv_iconst (v := 1) F.1 F.2.1 dX9_length_196 rfl ?_
    cases hs
    exact x_iret F rfl rfl hP hS dX9_length_197
  have hs := it_f c42 hs
  by_cases c43 : (x0) = 42
  · have hs := it_t c43 hs
    refine lv_tableIn (off := 195) (tgt := 196) F.1 F.2.1 dX9_length_1 (by rw [c43]; decide) (by rw [c43]; decide) (by rw [c43]; rfl) (by decide) ?_
    refine lv_iconst (v := 1) F.1 F.2.1 dX9_length_196 rfl ?_
    cases hs
    exact x_iret F rfl rfl hP hS dX9_length_197
  have hs := it_f c43 hs
  by_cases c44 : (x0) = 43
  · have hs := it_t c44 hs
    refine lv_tableIn (off := 195) (tgt := 196) F.1 F.2.1 dX9_length_1 (by rw [c44]; decide) (by rw [c44]; decide) (by rw [c44]; rfl) (by decide) ?_
    refine lv_iconst (v := 1) F.1 F.2.1 dX9_length_196 rfl ?_
    cases hs
    exact x_iret F rfl rfl hP hS dX9_length_197
  have hs := it_f c44 hs
  by_cases c45 : (x0) = 44
  · have hs := it_t c45 hs
    refine lv_tableIn (off := 191) (tgt := 192) F.1 F.2.1 dX9_length_1 (by rw [c45]; decide) (by rw [c45]; decide) (by rw [c45]; rfl) (by decide) ?_
    refine lv_iconst (v := 2) F.1 F.2.1 dX9_length_192 rfl ?_
    cases hs
    exact x_iret F rfl rfl hP hS dX9_length_193
  have hs := it_f c45 hs
  cases hs

def pX9_takes (M : St) (x1 : Int32) : Option Int32 :=
  if (x1).toInt < 4 ∨ 43 < (x1).toInt then
    some 0
  else
  if (x1) = 4 then
    some 1
  else
  if (x1) = 5 then
    some 0
  else
  if (x1) = 6 then
    some 2
  else
  if (x1) = 7 then
    some 2
  else
  if (x1) = 8 then
    some 2
  else
  if (x1) = 9 then
    some 2
  else
  if (x1) = 10 then
    some 2
  else
  if (x1) = 11 then
    some 1
  else
  if (x1) = 12 then
    some 2
  else
  if (x1) = 13 then
    some 2
  else
  if (x1) = 14 then
    some 2
  else
  if (x1) = 15 then
    some 2
  else
  if (x1) = 16 then
    some 2
  else
  if (x1) = 17 then
    some 2
  else
  if (x1) = 18 then
    some 1
  else
  if (x1) = 19 then
    some 1
  else
  if (x1) = 20 then
    some 2
  else
  if (x1) = 21 then
    some 0
  else
  if (x1) = 22 then
    some 1
  else
  if (x1) = 23 then
    some 2
  else
  if (x1) = 24 then
    bn (pX9_byteAt M 2) fun r1 =>
    some (r1 - r1 / 9 * 9)
  else
  if (x1) = 25 then
    some 0
  else
  if (x1) = 26 then
    some 1
  else
  if (x1) = 27 then
    bn (pX9_byteAt M 2) fun r2 =>
    some (r2 - r2 / 9 * 9)
  else
  if (x1) = 28 then
    some 0
  else
  if (x1) = 29 then
    some 0
  else
  if (x1) = 30 then
    some 2
  else
  if (x1) = 31 then
    some 3
  else
  if (x1) = 32 then
    some 1
  else
  if (x1) = 33 then
    some 0
  else
  if (x1) = 34 then
    some 1
  else
  if (x1) = 35 then
    some 5
  else
  if (x1) = 36 then
    some 0
  else
  if (x1) = 37 then
    some 0
  else
  if (x1) = 38 then
    some 0
  else
  if (x1) = 39 then
    some 0
  else
  if (x1) = 40 then
    some 1
  else
  if (x1) = 41 then
    some 0
  else
  if (x1) = 42 then
    some 1
  else
  if (x1) = 43 then
    some 1
  else
    none
set_option maxHeartbeats 4000000 in
set_option maxRecDepth 100000 in
theorem tX9_takes (l : Launch) (G : zG) (A : Nat → Prop) (q : Nat → Nat) (hq : zQD A 21 q) {M : St} {r : Int32} {x1 : Int32} (hs : pX9_takes M x1 = some r) : zKI l yX9_takes cX9_takes 2 (some .int) 3 61 G A (zP G.1 21 q (eM G q) M) [.ref (q 0), .int x1] r (zP G.1 21 q (eM G q) M) := by
  refine zKI_of (by decide) (Nat.le_of_ble_eq_true rfl) (fun p e s m args below meth c H ls F hH hP hl => ?_)
  have F : zFx p s m args meth c cX9_takes RX9 2 (some .int) G A := F
  have hS : va_S A s.heap H [] := hH ▸ va_S.rf
  have hl : lv_has ls 2 [(0, .ref (q 0)), (1, .int x1)] := hl
  rw [pX9_takes] at hs
  refine lv_iload_n F.1 F.2.1 dX9_takes_0 rfl (lv_at hl 1 rfl) ?_
  by_cases c1 : (x1).toInt < 4 ∨ 43 < (x1).toInt
  · have hs := it_t c1 hs
    refine lv_tableOut (tgt := 193) F.1 F.2.1 dX9_takes_1 c1 (by decide) ?_
    refine lv_iconst (v := 0) F.1 F.2.1 dX9_takes_193 rfl ?_
    cases hs
    exact x_iret F rfl rfl hP hS dX9_takes_194
  have hs := it_f c1 hs
  by_cases c2 : (x1) = 4
  · have hs := it_t c2 hs
    refine lv_tableIn (off := 175) (tgt := 176) F.1 F.2.1 dX9_takes_1 (by rw [c2]; decide) (by rw [c2]; decide) (by rw [c2]; rfl) (by decide) ?_
    refine lv_iconst (v := 1) F.1 F.2.1 dX9_takes_176 rfl ?_
    cases hs
    exact x_iret F rfl rfl hP hS dX9_takes_177
  have hs := it_f c2 hs
  by_cases c3 : (x1) = 5
  · have hs := it_t c3 hs
    refine lv_tableIn (off := 192) (tgt := 193) F.1 F.2.1 dX9_takes_1 (by rw [c3]; decide) (by rw [c3]; decide) (by rw [c3]; rfl) (by decide) ?_
    refine lv_iconst (v := 0) F.1 F.2.1 dX9_takes_193 rfl ?_
    cases hs
    exact x_iret F rfl rfl hP hS dX9_takes_194
  have hs := it_f c3 hs
  by_cases c4 : (x1) = 6
  · have hs := it_t c4 hs
    refine lv_tableIn (off := 177) (tgt := 178) F.1 F.2.1 dX9_takes_1 (by rw [c4]; decide) (by rw [c4]; decide) (by rw [c4]; rfl) (by decide) ?_
    refine lv_iconst (v := 2) F.1 F.2.1 dX9_takes_178 rfl ?_
    cases hs
    exact x_iret F rfl rfl hP hS dX9_takes_179
  have hs := it_f c4 hs
  by_cases c5 : (x1) = 7
  · have hs := it_t c5 hs
    refine lv_tableIn (off := 177) (tgt := 178) F.1 F.2.1 dX9_takes_1 (by rw [c5]; decide) (by rw [c5]; decide) (by rw [c5]; rfl) (by decide) ?_
    refine lv_iconst (v := 2) F.1 F.2.1 dX9_takes_178 rfl ?_
    cases hs
    exact x_iret F rfl rfl hP hS dX9_takes_179
  have hs := it_f c5 hs
  by_cases c6 : (x1) = 8
  · have hs := it_t c6 hs
    refine lv_tableIn (off := 177) (tgt := 178) F.1 F.2.1 dX9_takes_1 (by rw [c6]; decide) (by rw [c6]; decide) (by rw [c6]; rfl) (by decide) ?_
    refine lv_iconst (v := 2) F.1 F.2.1 dX9_takes_178 rfl ?_
    cases hs
    exact x_iret F rfl rfl hP hS dX9_takes_179
  have hs := it_f c6 hs
  by_cases c7 : (x1) = 9
  · have hs := it_t c7 hs
    refine lv_tableIn (off := 177) (tgt := 178) F.1 F.2.1 dX9_takes_1 (by rw [c7]; decide) (by rw [c7]; decide) (by rw [c7]; rfl) (by decide) ?_
    refine lv_iconst (v := 2) F.1 F.2.1 dX9_takes_178 rfl ?_
    cases hs
    exact x_iret F rfl rfl hP hS dX9_takes_179
  have hs := it_f c7 hs
  by_cases c8 : (x1) = 10
  · have hs := it_t c8 hs
    refine lv_tableIn (off := 177) (tgt := 178) F.1 F.2.1 dX9_takes_1 (by rw [c8]; decide) (by rw [c8]; decide) (by rw [c8]; rfl) (by decide) ?_
    refine lv_iconst (v := 2) F.1 F.2.1 dX9_takes_178 rfl ?_
    cases hs
    exact x_iret F rfl rfl hP hS dX9_takes_179
  have hs := it_f c8 hs
  by_cases c9 : (x1) = 11
  · have hs := it_t c9 hs
    refine lv_tableIn (off := 175) (tgt := 176) F.1 F.2.1 dX9_takes_1 (by rw [c9]; decide) (by rw [c9]; decide) (by rw [c9]; rfl) (by decide) ?_
    refine lv_iconst (v := 1) F.1 F.2.1 dX9_takes_176 rfl ?_
    cases hs
    exact x_iret F rfl rfl hP hS dX9_takes_177
  have hs := it_f c9 hs
  by_cases c10 : (x1) = 12
  · have hs := it_t c10 hs
    refine lv_tableIn (off := 177) (tgt := 178) F.1 F.2.1 dX9_takes_1 (by rw [c10]; decide) (by rw [c10]; decide) (by rw [c10]; rfl) (by decide) ?_
    refine lv_iconst (v := 2) F.1 F.2.1 dX9_takes_178 rfl ?_
    cases hs
    exact x_iret F rfl rfl hP hS dX9_takes_179
  have hs := it_f c10 hs
  by_cases c11 : (x1) = 13
  · have hs := it_t c11 hs
    refine lv_tableIn (off := 177) (tgt := 178) F.1 F.2.1 dX9_takes_1 (by rw [c11]; decide) (by rw [c11]; decide) (by rw [c11]; rfl) (by decide) ?_
    refine lv_iconst (v := 2) F.1 F.2.1 dX9_takes_178 rfl ?_
    cases hs
    exact x_iret F rfl rfl hP hS dX9_takes_179
  have hs := it_f c11 hs
  by_cases c12 : (x1) = 14
  · have hs := it_t c12 hs
    refine lv_tableIn (off := 177) (tgt := 178) F.1 F.2.1 dX9_takes_1 (by rw [c12]; decide) (by rw [c12]; decide) (by rw [c12]; rfl) (by decide) ?_
    refine lv_iconst (v := 2) F.1 F.2.1 dX9_takes_178 rfl ?_
    cases hs
    exact x_iret F rfl rfl hP hS dX9_takes_179
  have hs := it_f c12 hs
  by_cases c13 : (x1) = 15
  · have hs := it_t c13 hs
    refine lv_tableIn (off := 177) (tgt := 178) F.1 F.2.1 dX9_takes_1 (by rw [c13]; decide) (by rw [c13]; decide) (by rw [c13]; rfl) (by decide) ?_
    refine lv_iconst (v := 2) F.1 F.2.1 dX9_takes_178 rfl ?_
    cases hs
    exact x_iret F rfl rfl hP hS dX9_takes_179
  have hs := it_f c13 hs
  by_cases c14 : (x1) = 16
  · have hs := it_t c14 hs
    refine lv_tableIn (off := 177) (tgt := 178) F.1 F.2.1 dX9_takes_1 (by rw [c14]; decide) (by rw [c14]; decide) (by rw [c14]; rfl) (by decide) ?_
    refine lv_iconst (v := 2) F.1 F.2.1 dX9_takes_178 rfl ?_
    cases hs
    exact x_iret F rfl rfl hP hS dX9_takes_179
  have hs := it_f c14 hs
  by_cases c15 : (x1) = 17
  · have hs := it_t c15 hs
    refine lv_tableIn (off := 177) (tgt := 178) F.1 F.2.1 dX9_takes_1 (by rw [c15]; decide) (by rw [c15]; decide) (by rw [c15]; rfl) (by decide) ?_
    refine lv_iconst (v := 2) F.1 F.2.1 dX9_takes_178 rfl ?_
    cases hs
    exact x_iret F rfl rfl hP hS dX9_takes_179
  have hs := it_f c15 hs
  by_cases c16 : (x1) = 18
  · have hs := it_t c16 hs
    refine lv_tableIn (off := 175) (tgt := 176) F.1 F.2.1 dX9_takes_1 (by rw [c16]; decide) (by rw [c16]; decide) (by rw [c16]; rfl) (by decide) ?_
    refine lv_iconst (v := 1) F.1 F.2.1 dX9_takes_176 rfl ?_
    cases hs
    exact x_iret F rfl rfl hP hS dX9_takes_177
  have hs := it_f c16 hs
  by_cases c17 : (x1) = 19
  · have hs := it_t c17 hs
    refine lv_tableIn (off := 175) (tgt := 176) F.1 F.2.1 dX9_takes_1 (by rw [c17]; decide) (by rw [c17]; decide) (by rw [c17]; rfl) (by decide) ?_
    refine lv_iconst (v := 1) F.1 F.2.1 dX9_takes_176 rfl ?_
    cases hs
    exact x_iret F rfl rfl hP hS dX9_takes_177
  have hs := it_f c17 hs
  by_cases c18 : (x1) = 20
  · have hs := it_t c18 hs
    refine lv_tableIn (off := 177) (tgt := 178) F.1 F.2.1 dX9_takes_1 (by rw [c18]; decide) (by rw [c18]; decide) (by rw [c18]; rfl) (by decide) ?_
    refine lv_iconst (v := 2) F.1 F.2.1 dX9_takes_178 rfl ?_
    cases hs
    exact x_iret F rfl rfl hP hS dX9_takes_179
  have hs := it_f c18 hs
  by_cases c19 : (x1) = 21
  · have hs := it_t c19 hs
    refine lv_tableIn (off := 192) (tgt := 193) F.1 F.2.1 dX9_takes_1 (by rw [c19]; decide) (by rw [c19]; decide) (by rw [c19]; rfl) (by decide) ?_
    refine lv_iconst (v := 0) F.1 F.2.1 dX9_takes_193 rfl ?_
    cases hs
    exact x_iret F rfl rfl hP hS dX9_takes_194
  have hs := it_f c19 hs
  by_cases c20 : (x1) = 22
  · have hs := it_t c20 hs
    refine lv_tableIn (off := 175) (tgt := 176) F.1 F.2.1 dX9_takes_1 (by rw [c20]; decide) (by rw [c20]; decide) (by rw [c20]; rfl) (by decide) ?_
    refine lv_iconst (v := 1) F.1 F.2.1 dX9_takes_176 rfl ?_
    cases hs
    exact x_iret F rfl rfl hP hS dX9_takes_177
  have hs := it_f c20 hs
  by_cases c21 : (x1) = 23
  · have hs := it_t c21 hs
    refine lv_tableIn (off := 177) (tgt := 178) F.1 F.2.1 dX9_takes_1 (by rw [c21]; decide) (by rw [c21]; decide) (by rw [c21]; rfl) (by decide) ?_
    refine lv_iconst (v := 2) F.1 F.2.1 dX9_takes_178 rfl ?_
    cases hs
    exact x_iret F rfl rfl hP hS dX9_takes_179
  have hs := it_f c21 hs
  by_cases c22 : (x1) = 24
  · have hs := it_t c22 hs
    refine lv_tableIn (off := 183) (tgt := 184) F.1 F.2.1 dX9_takes_1 (by rw [c22]; decide) (by rw [c22]; decide) (by rw [c22]; rfl) (by decide) ?_
    refine lv_aload_n F.1 F.2.1 dX9_takes_184 rfl (lv_at hl 0 rfl) ?_
    refine lv_iconst (v := 2) F.1 F.2.1 dX9_takes_185 rfl ?_
    obtain ⟨r1, h1, hs⟩ := bn_some hs
    refine x_callI (rest := []) wv_X9_111 F hS (fun _ h => h) hS.2.1 (tX9_byteAt l G A q hq h1) hP (x_recv (ci := 7) F hP rfl (by decide) (eM_0 G q _)) rfl hl.1 rfl ⟨Nat.le_of_ble_eq_true rfl, Nat.le_of_ble_eq_true rfl⟩ ⟨Nat.le_refl _, Nat.le_refl _⟩ (Nat.le_of_ble_eq_true rfl) dX9_takes_186 (fun H locs hP hS _ _ => ?_)
    refine lv_bipush (v := 9) F.1 F.2.1 dX9_takes_189 rfl ?_
    refine lv_irem F.1 F.2.1 dX9_takes_191 (by decide) ?_
    cases hs
    exact x_iret F rfl rfl hP hS dX9_takes_192
  have hs := it_f c22 hs
  by_cases c23 : (x1) = 25
  · have hs := it_t c23 hs
    refine lv_tableIn (off := 192) (tgt := 193) F.1 F.2.1 dX9_takes_1 (by rw [c23]; decide) (by rw [c23]; decide) (by rw [c23]; rfl) (by decide) ?_
    refine lv_iconst (v := 0) F.1 F.2.1 dX9_takes_193 rfl ?_
    cases hs
    exact x_iret F rfl rfl hP hS dX9_takes_194
  have hs := it_f c23 hs
  by_cases c24 : (x1) = 26
  · have hs := it_t c24 hs
    refine lv_tableIn (off := 175) (tgt := 176) F.1 F.2.1 dX9_takes_1 (by rw [c24]; decide) (by rw [c24]; decide) (by rw [c24]; rfl) (by decide) ?_
    refine lv_iconst (v := 1) F.1 F.2.1 dX9_takes_176 rfl ?_
    cases hs
    exact x_iret F rfl rfl hP hS dX9_takes_177
  have hs := it_f c24 hs
  by_cases c25 : (x1) = 27
  · have hs := it_t c25 hs
    refine lv_tableIn (off := 183) (tgt := 184) F.1 F.2.1 dX9_takes_1 (by rw [c25]; decide) (by rw [c25]; decide) (by rw [c25]; rfl) (by decide) ?_
    refine lv_aload_n F.1 F.2.1 dX9_takes_184 rfl (lv_at hl 0 rfl) ?_
    refine lv_iconst (v := 2) F.1 F.2.1 dX9_takes_185 rfl ?_
    obtain ⟨r2, h2, hs⟩ := bn_some hs
    refine x_callI (rest := []) wv_X9_111 F hS (fun _ h => h) hS.2.1 (tX9_byteAt l G A q hq h2) hP (x_recv (ci := 7) F hP rfl (by decide) (eM_0 G q _)) rfl hl.1 rfl ⟨Nat.le_of_ble_eq_true rfl, Nat.le_of_ble_eq_true rfl⟩ ⟨Nat.le_refl _, Nat.le_refl _⟩ (Nat.le_of_ble_eq_true rfl) dX9_takes_186 (fun H locs hP hS _ _ => ?_)
    refine lv_bipush (v := 9) F.1 F.2.1 dX9_takes_189 rfl ?_
    refine lv_irem F.1 F.2.1 dX9_takes_191 (by decide) ?_
    cases hs
    exact x_iret F rfl rfl hP hS dX9_takes_192
  have hs := it_f c25 hs
  by_cases c26 : (x1) = 28
  · have hs := it_t c26 hs
    refine lv_tableIn (off := 192) (tgt := 193) F.1 F.2.1 dX9_takes_1 (by rw [c26]; decide) (by rw [c26]; decide) (by rw [c26]; rfl) (by decide) ?_
    refine lv_iconst (v := 0) F.1 F.2.1 dX9_takes_193 rfl ?_
    cases hs
    exact x_iret F rfl rfl hP hS dX9_takes_194
  have hs := it_f c26 hs
  by_cases c27 : (x1) = 29
  · have hs := it_t c27 hs
    refine lv_tableIn (off := 192) (tgt := 193) F.1 F.2.1 dX9_takes_1 (by rw [c27]; decide) (by rw [c27]; decide) (by rw [c27]; rfl) (by decide) ?_
    refine lv_iconst (v := 0) F.1 F.2.1 dX9_takes_193 rfl ?_
    cases hs
    exact x_iret F rfl rfl hP hS dX9_takes_194
  have hs := it_f c27 hs
  by_cases c28 : (x1) = 30
  · have hs := it_t c28 hs
    refine lv_tableIn (off := 177) (tgt := 178) F.1 F.2.1 dX9_takes_1 (by rw [c28]; decide) (by rw [c28]; decide) (by rw [c28]; rfl) (by decide) ?_
    refine lv_iconst (v := 2) F.1 F.2.1 dX9_takes_178 rfl ?_
    cases hs
    exact x_iret F rfl rfl hP hS dX9_takes_179
  have hs := it_f c28 hs
  by_cases c29 : (x1) = 31
  · have hs := it_t c29 hs
    refine lv_tableIn (off := 179) (tgt := 180) F.1 F.2.1 dX9_takes_1 (by rw [c29]; decide) (by rw [c29]; decide) (by rw [c29]; rfl) (by decide) ?_
    refine lv_iconst (v := 3) F.1 F.2.1 dX9_takes_180 rfl ?_
    cases hs
    exact x_iret F rfl rfl hP hS dX9_takes_181
  have hs := it_f c29 hs
  by_cases c30 : (x1) = 32
  · have hs := it_t c30 hs
    refine lv_tableIn (off := 175) (tgt := 176) F.1 F.2.1 dX9_takes_1 (by rw [c30]; decide) (by rw [c30]; decide) (by rw [c30]; rfl) (by decide) ?_
    refine lv_iconst (v := 1) F.1 F.2.1 dX9_takes_176 rfl ?_
    cases hs
    exact x_iret F rfl rfl hP hS dX9_takes_177
  have hs := it_f c30 hs
  by_cases c31 : (x1) = 33
  · have hs := it_t c31 hs
    refine lv_tableIn (off := 192) (tgt := 193) F.1 F.2.1 dX9_takes_1 (by rw [c31]; decide) (by rw [c31]; decide) (by rw [c31]; rfl) (by decide) ?_
    refine lv_iconst (v := 0) F.1 F.2.1 dX9_takes_193 rfl ?_
    cases hs
    exact x_iret F rfl rfl hP hS dX9_takes_194
  have hs := it_f c31 hs
  by_cases c32 : (x1) = 34
  · have hs := it_t c32 hs
    refine lv_tableIn (off := 175) (tgt := 176) F.1 F.2.1 dX9_takes_1 (by rw [c32]; decide) (by rw [c32]; decide) (by rw [c32]; rfl) (by decide) ?_
    refine lv_iconst (v := 1) F.1 F.2.1 dX9_takes_176 rfl ?_
    cases hs
    exact x_iret F rfl rfl hP hS dX9_takes_177
  have hs := it_f c32 hs
  by_cases c33 : (x1) = 35
  · have hs := it_t c33 hs
    refine lv_tableIn (off := 181) (tgt := 182) F.1 F.2.1 dX9_takes_1 (by rw [c33]; decide) (by rw [c33]; decide) (by rw [c33]; rfl) (by decide) ?_
    refine lv_iconst (v := 5) F.1 F.2.1 dX9_takes_182 rfl ?_
    cases hs
    exact x_iret F rfl rfl hP hS dX9_takes_183
  have hs := it_f c33 hs
  by_cases c34 : (x1) = 36
  · have hs := it_t c34 hs
    refine lv_tableIn (off := 192) (tgt := 193) F.1 F.2.1 dX9_takes_1 (by rw [c34]; decide) (by rw [c34]; decide) (by rw [c34]; rfl) (by decide) ?_
    refine lv_iconst (v := 0) F.1 F.2.1 dX9_takes_193 rfl ?_
    cases hs
    exact x_iret F rfl rfl hP hS dX9_takes_194
  have hs := it_f c34 hs
  by_cases c35 : (x1) = 37
  · have hs := it_t c35 hs
    refine lv_tableIn (off := 192) (tgt := 193) F.1 F.2.1 dX9_takes_1 (by rw [c35]; decide) (by rw [c35]; decide) (by rw [c35]; rfl) (by decide) ?_
    refine lv_iconst (v := 0) F.1 F.2.1 dX9_takes_193 rfl ?_
    cases hs
    exact x_iret F rfl rfl hP hS dX9_takes_194
  have hs := it_f c35 hs
  by_cases c36 : (x1) = 38
  · have hs := it_t c36 hs
    refine lv_tableIn (off := 192) (tgt := 193) F.1 F.2.1 dX9_takes_1 (by rw [c36]; decide) (by rw [c36]; decide) (by rw [c36]; rfl) (by decide) ?_
    refine lv_iconst (v := 0) F.1 F.2.1 dX9_takes_193 rfl ?_
    cases hs
    exact x_iret F rfl rfl hP hS dX9_takes_194
  have hs := it_f c36 hs
  by_cases c37 : (x1) = 39
  · have hs := it_t c37 hs
    refine lv_tableIn (off := 192) (tgt := 193) F.1 F.2.1 dX9_takes_1 (by rw [c37]; decide) (by rw [c37]; decide) (by rw [c37]; rfl) (by decide) ?_
    refine lv_iconst (v := 0) F.1 F.2.1 dX9_takes_193 rfl ?_
    cases hs
    exact x_iret F rfl rfl hP hS dX9_takes_194
  have hs := it_f c37 hs
  by_cases c38 : (x1) = 40
  · have hs := it_t c38 hs
    refine lv_tableIn (off := 175) (tgt := 176) F.1 F.2.1 dX9_takes_1 (by rw [c38]; decide) (by rw [c38]; decide) (by rw [c38]; rfl) (by decide) ?_
    refine lv_iconst (v := 1) F.1 F.2.1 dX9_takes_176 rfl ?_
    cases hs
    exact x_iret F rfl rfl hP hS dX9_takes_177
  have hs := it_f c38 hs
  by_cases c39 : (x1) = 41
  · have hs := it_t c39 hs
    refine lv_tableIn (off := 192) (tgt := 193) F.1 F.2.1 dX9_takes_1 (by rw [c39]; decide) (by rw [c39]; decide) (by rw [c39]; rfl) (by decide) ?_
    refine lv_iconst (v := 0) F.1 F.2.1 dX9_takes_193 rfl ?_
    cases hs
    exact x_iret F rfl rfl hP hS dX9_takes_194
  have hs := it_f c39 hs
  by_cases c40 : (x1) = 42
  · have hs := it_t c40 hs
    refine lv_tableIn (off := 175) (tgt := 176) F.1 F.2.1 dX9_takes_1 (by rw [c40]; decide) (by rw [c40]; decide) (by rw [c40]; rfl) (by decide) ?_
    refine lv_iconst (v := 1) F.1 F.2.1 dX9_takes_176 rfl ?_
    cases hs
    exact x_iret F rfl rfl hP hS dX9_takes_177
  have hs := it_f c40 hs
  by_cases c41 : (x1) = 43
  · have hs := it_t c41 hs
    refine lv_tableIn (off := 175) (tgt := 176) F.1 F.2.1 dX9_takes_1 (by rw [c41]; decide) (by rw [c41]; decide) (by rw [c41]; rfl) (by decide) ?_
    refine lv_iconst (v := 1) F.1 F.2.1 dX9_takes_176 rfl ?_
    cases hs
    exact x_iret F rfl rfl hP hS dX9_takes_177
  have hs := it_f c41 hs
  cases hs

def pX9_isObject (M : St) (x1 : Int32) : Option Int32 :=
  if x1 < 1 then
    some 0
  else
    if M 0 4 < x1 then
      some 0
    else
      some 1
set_option maxHeartbeats 4000000 in
set_option maxRecDepth 100000 in
theorem tX9_isObject (l : Launch) (G : zG) (A : Nat → Prop) (q : Nat → Nat) (hq : zQD A 21 q) {M : St} {r : Int32} {x1 : Int32} (hs : pX9_isObject M x1 = some r) : zKI l yX9_isObject cX9_isObject 2 (some .boolean) 0 0 G A (zP G.1 21 q (eM G q) M) [.ref (q 0), .int x1] r (zP G.1 21 q (eM G q) M) := by
  refine zKI_of (by decide) (Nat.le_of_ble_eq_true rfl) (fun p e s m args below meth c H ls F hH hP hl => ?_)
  have F : zFx p s m args meth c cX9_isObject RX9 2 (some .boolean) G A := F
  have hS : va_S A s.heap H [] := hH ▸ va_S.rf
  have hl : lv_has ls 2 [(0, .ref (q 0)), (1, .int x1)] := hl
  rw [pX9_isObject] at hs
  refine lv_iload_n F.1 F.2.1 dX9_isObject_0 rfl (lv_at hl 1 rfl) ?_
  refine lv_iconst (v := 1) F.1 F.2.1 dX9_isObject_1 rfl ?_
  refine lv_icmp_lt (tgt := 17) F.1 F.2.1 dX9_isObject_2 (by decide) (fun c1 => ?_) (fun c1 => ?_)
  · have hs := it_t c1 hs
    refine lv_iconst (v := 0) F.1 F.2.1 dX9_isObject_17 rfl ?_
    cases hs
    exact x_iret F rfl rfl hP hS dX9_isObject_18
  have hs := it_f c1 hs
  refine lv_iload_n F.1 F.2.1 dX9_isObject_5 rfl (lv_at hl 1 rfl) ?_
  refine lv_aload_n F.1 F.2.1 dX9_isObject_6 rfl (lv_at hl 0 rfl) ?_
  refine gM_X9_83 F hP dX9_isObject_7 ?_
  refine lv_icmp_gt (tgt := 17) F.1 F.2.1 dX9_isObject_10 (by decide) (fun c2 => ?_) (fun c2 => ?_)
  · have hs := it_t c2 hs
    refine lv_iconst (v := 0) F.1 F.2.1 dX9_isObject_17 rfl ?_
    cases hs
    exact x_iret F rfl rfl hP hS dX9_isObject_18
  have hs := it_f c2 hs
  refine lv_iconst (v := 1) F.1 F.2.1 dX9_isObject_13 rfl ?_
  refine lv_goto (tgt := 18) F.1 F.2.1 dX9_isObject_14 (by decide) ?_
  cases hs
  exact x_iret F rfl rfl hP hS dX9_isObject_18

def pX9_isShut (M : St) (x1 : Int32) : Option Int32 :=
  bn (pX9_top M) fun r1 =>
  gd (inb r1 8) <|
  if M 14 (ix r1) = 0 then
    some 0
  else
    gd (inb x1 41) <|
    bn (pX9_top M) fun r2 =>
    gd (inb r2 8) <|
    if M 5 (ix x1) = M 14 (ix r2) then
      some 0
    else
      some 1
set_option maxHeartbeats 4000000 in
set_option maxRecDepth 100000 in
theorem tX9_isShut (l : Launch) (G : zG) (A : Nat → Prop) (q : Nat → Nat) (hq : zQD A 21 q) {M : St} {r : Int32} {x1 : Int32} (hs : pX9_isShut M x1 = some r) : zKI l yX9_isShut cX9_isShut 2 (some .boolean) 1 20 G A (zP G.1 21 q (eM G q) M) [.ref (q 0), .int x1] r (zP G.1 21 q (eM G q) M) := by
  refine zKI_of (by decide) (Nat.le_of_ble_eq_true rfl) (fun p e s m args below meth c H ls F hH hP hl => ?_)
  have F : zFx p s m args meth c cX9_isShut RX9 2 (some .boolean) G A := F
  have hS : va_S A s.heap H [] := hH ▸ va_S.rf
  have hl : lv_has ls 2 [(0, .ref (q 0)), (1, .int x1)] := hl
  rw [pX9_isShut] at hs
  refine lv_aload_n F.1 F.2.1 dX9_isShut_0 rfl (lv_at hl 0 rfl) ?_
  refine gM_X9_58 F hP dX9_isShut_1 ?_
  refine lv_aload_n F.1 F.2.1 dX9_isShut_4 rfl (lv_at hl 0 rfl) ?_
  obtain ⟨r1, h1, hs⟩ := bn_some hs
  refine x_callI (rest := [.ref (q 14)]) wv_X9_101 F hS (fun _ h => h) hS.2.1 (tX9_top l G A q hq h1) hP (x_recv (ci := 7) F hP rfl (by decide) (eM_0 G q _)) rfl hl.1 rfl ⟨Nat.le_of_ble_eq_true rfl, Nat.le_of_ble_eq_true rfl⟩ ⟨Nat.le_refl _, Nat.le_refl _⟩ (Nat.le_of_ble_eq_true rfl) dX9_isShut_5 (fun H locs hP hS _ _ => ?_)
  obtain ⟨g1, hs⟩ := gd_some hs
  refine x_iald F hP (arM_14 G q) g1 dX9_isShut_8 ?_
  refine lv_if_eq (tgt := 34) F.1 F.2.1 dX9_isShut_9 (by decide) (fun c1 => ?_) (fun c1 => ?_)
  · have hs := it_t c1 hs
    refine lv_iconst (v := 0) F.1 F.2.1 dX9_isShut_34 rfl ?_
    cases hs
    exact x_iret F rfl rfl hP hS dX9_isShut_35
  have hs := it_f c1 hs
  refine lv_aload_n F.1 F.2.1 dX9_isShut_12 rfl (lv_at hl 0 rfl) ?_
  refine gM_X9_23 F hP dX9_isShut_13 ?_
  refine lv_iload_n F.1 F.2.1 dX9_isShut_16 rfl (lv_at hl 1 rfl) ?_
  obtain ⟨g2, hs⟩ := gd_some hs
  refine x_iald F hP (arM_5 G q) g2 dX9_isShut_17 ?_
  refine lv_aload_n F.1 F.2.1 dX9_isShut_18 rfl (lv_at hl 0 rfl) ?_
  refine gM_X9_58 F hP dX9_isShut_19 ?_
  refine lv_aload_n F.1 F.2.1 dX9_isShut_22 rfl (lv_at hl 0 rfl) ?_
  obtain ⟨r2, h2, hs⟩ := bn_some hs
  refine x_callI (rest := [.ref (q 14), .int (M 5 (ix x1))]) wv_X9_101 F hS (fun _ h => h) hS.2.1 (tX9_top l G A q hq h2) hP (x_recv (ci := 7) F hP rfl (by decide) (eM_0 G q _)) rfl hl.1 rfl ⟨Nat.le_of_ble_eq_true rfl, Nat.le_of_ble_eq_true rfl⟩ ⟨Nat.le_refl _, Nat.le_refl _⟩ (Nat.le_of_ble_eq_true rfl) dX9_isShut_23 (fun H locs hP hS _ _ => ?_)
  obtain ⟨g3, hs⟩ := gd_some hs
  refine x_iald F hP (arM_14 G q) g3 dX9_isShut_26 ?_
  refine lv_icmp_eq (tgt := 34) F.1 F.2.1 dX9_isShut_27 (by decide) (fun c2 => ?_) (fun c2 => ?_)
  · have hs := it_t c2 hs
    refine lv_iconst (v := 0) F.1 F.2.1 dX9_isShut_34 rfl ?_
    cases hs
    exact x_iret F rfl rfl hP hS dX9_isShut_35
  have hs := it_f c2 hs
  refine lv_iconst (v := 1) F.1 F.2.1 dX9_isShut_30 rfl ?_
  refine lv_goto (tgt := 35) F.1 F.2.1 dX9_isShut_31 (by decide) ?_
  cases hs
  exact x_iret F rfl rfl hP hS dX9_isShut_35

def pX9_copyFault (M : St) (x1 : Int32) (x2 : Int32) (x3 : Int32) (x4 : Int32) (x5 : Int32) : Option Int32 :=
  bn (pX9_isObject M x1) fun r1 =>
  if r1 = 0 then
    some 2
  else
    bn (pX9_isObject M x3) fun r2 =>
    if r2 = 0 then
      some 2
    else
      bn (pX9_isShut M x1) fun r3 =>
      if r3 = 0 then
        bn (pX9_isShut M x3) fun r4 =>
        if r4 = 0 then
          gd (inb x1 41) <|
          if M 6 (ix x1) = 0 then
            some 11
          else
            gd (inb x3 41) <|
            if M 6 (ix x3) = 0 then
              some 11
            else
              if 0 ≤ x5 then
                if x2 < 0 then
                  some 3
                else
                  if x4 < 0 then
                    some 3
                  else
                    gd (inb x1 41) <|
                    if M 7 (ix x1) < x2 + x5 then
                      some 3
                    else
                      gd (inb x3 41) <|
                      if M 7 (ix x3) < x4 + x5 then
                        some 3
                      else
                        some 0
              else
                some 8
        else
          some 4
      else
        some 4
set_option maxHeartbeats 4000000 in
set_option maxRecDepth 100000 in
theorem tX9_copyFault (l : Launch) (G : zG) (A : Nat → Prop) (q : Nat → Nat) (hq : zQD A 21 q) {M : St} {r : Int32} {x1 : Int32} {x2 : Int32} {x3 : Int32} {x4 : Int32} {x5 : Int32} (hs : pX9_copyFault M x1 x2 x3 x4 x5 = some r) : zKI l yX9_copyFault cX9_copyFault 7 (some .int) 2 41 G A (zP G.1 21 q (eM G q) M) [.ref (q 0), .int x1, .int x2, .int x3, .int x4, .int x5] r (zP G.1 21 q (eM G q) M) := by
  refine zKI_of (by decide) (Nat.le_of_ble_eq_true rfl) (fun p e s m args below meth c H ls F hH hP hl => ?_)
  have F : zFx p s m args meth c cX9_copyFault RX9 7 (some .int) G A := F
  have hS : va_S A s.heap H [] := hH ▸ va_S.rf
  have hl : lv_has ls 7 [(0, .ref (q 0)), (1, .int x1), (2, .int x2), (3, .int x3), (4, .int x4), (5, .int x5)] := hl
  rw [pX9_copyFault] at hs
  refine lv_aload_n F.1 F.2.1 dX9_copyFault_0 rfl (lv_at hl 0 rfl) ?_
  refine lv_iload_n F.1 F.2.1 dX9_copyFault_1 rfl (lv_at hl 1 rfl) ?_
  obtain ⟨r1, h1, hs⟩ := bn_some hs
  refine x_callI (rest := []) wv_X9_124 F hS (fun _ h => h) hS.2.1 (tX9_isObject l G A q hq h1) hP (x_recv (ci := 7) F hP rfl (by decide) (eM_0 G q _)) rfl hl.1 rfl ⟨Nat.le_of_ble_eq_true rfl, Nat.le_of_ble_eq_true rfl⟩ ⟨Nat.le_refl _, Nat.le_refl _⟩ (Nat.le_of_ble_eq_true rfl) dX9_copyFault_2 (fun H locs hP hS _ _ => ?_)
  refine lv_if_eq (tgt := 16) F.1 F.2.1 dX9_copyFault_5 (by decide) (fun c1 => ?_) (fun c1 => ?_)
  · have hs := it_t c1 hs
    refine lv_iconst (v := 2) F.1 F.2.1 dX9_copyFault_16 rfl ?_
    cases hs
    exact x_iret F rfl rfl hP hS dX9_copyFault_17
  have hs := it_f c1 hs
  refine lv_aload_n F.1 F.2.1 dX9_copyFault_8 rfl (lv_at hl 0 rfl) ?_
  refine lv_iload_n F.1 F.2.1 dX9_copyFault_9 rfl (lv_at hl 3 rfl) ?_
  obtain ⟨r2, h2, hs⟩ := bn_some hs
  refine x_callI (rest := []) wv_X9_124 F hS (fun _ h => h) hS.2.1 (tX9_isObject l G A q hq h2) hP (x_recv (ci := 7) F hP rfl (by decide) (eM_0 G q _)) rfl hl.1 rfl ⟨Nat.le_of_ble_eq_true rfl, Nat.le_of_ble_eq_true rfl⟩ ⟨Nat.le_refl _, Nat.le_refl _⟩ (Nat.le_of_ble_eq_true rfl) dX9_copyFault_10 (fun H locs hP hS _ _ => ?_)
  refine lv_if_ne (tgt := 18) F.1 F.2.1 dX9_copyFault_13 (by decide) (fun c2 => ?_) (fun c2 => ?_)
  · have hs := it_f c2 hs
    refine lv_aload_n F.1 F.2.1 dX9_copyFault_18 rfl (lv_at hl 0 rfl) ?_
    refine lv_iload_n F.1 F.2.1 dX9_copyFault_19 rfl (lv_at hl 1 rfl) ?_
    obtain ⟨r3, h3, hs⟩ := bn_some hs
    refine x_callI (rest := []) wv_X9_128 F hS (fun _ h => h) hS.2.1 (tX9_isShut l G A q hq h3) hP (x_recv (ci := 7) F hP rfl (by decide) (eM_0 G q _)) rfl hl.1 rfl ⟨Nat.le_of_ble_eq_true rfl, Nat.le_of_ble_eq_true rfl⟩ ⟨Nat.le_refl _, Nat.le_refl _⟩ (Nat.le_of_ble_eq_true rfl) dX9_copyFault_20 (fun H locs hP hS _ _ => ?_)
    refine lv_if_ne (tgt := 34) F.1 F.2.1 dX9_copyFault_23 (by decide) (fun c3 => ?_) (fun c3 => ?_)
    · have hs := it_f c3 hs
      refine lv_iconst (v := 4) F.1 F.2.1 dX9_copyFault_34 rfl ?_
      cases hs
      exact x_iret F rfl rfl hP hS dX9_copyFault_35
    have hs := it_t c3 hs
    refine lv_aload_n F.1 F.2.1 dX9_copyFault_26 rfl (lv_at hl 0 rfl) ?_
    refine lv_iload_n F.1 F.2.1 dX9_copyFault_27 rfl (lv_at hl 3 rfl) ?_
    obtain ⟨r4, h4, hs⟩ := bn_some hs
    refine x_callI (rest := []) wv_X9_128 F hS (fun _ h => h) hS.2.1 (tX9_isShut l G A q hq h4) hP (x_recv (ci := 7) F hP rfl (by decide) (eM_0 G q _)) rfl hl.1 rfl ⟨Nat.le_of_ble_eq_true rfl, Nat.le_of_ble_eq_true rfl⟩ ⟨Nat.le_refl _, Nat.le_refl _⟩ (Nat.le_of_ble_eq_true rfl) dX9_copyFault_28 (fun H locs hP hS _ _ => ?_)
    refine lv_if_eq (tgt := 36) F.1 F.2.1 dX9_copyFault_31 (by decide) (fun c4 => ?_) (fun c4 => ?_)
    · have hs := it_t c4 hs
      refine lv_aload_n F.1 F.2.1 dX9_copyFault_36 rfl (lv_at hl 0 rfl) ?_
      refine gM_X9_26 F hP dX9_copyFault_37 ?_
      refine lv_iload_n F.1 F.2.1 dX9_copyFault_40 rfl (lv_at hl 1 rfl) ?_
      obtain ⟨g1, hs⟩ := gd_some hs
      refine x_iald F hP (arM_6 G q) g1 dX9_copyFault_41 ?_
      refine lv_if_eq (tgt := 54) F.1 F.2.1 dX9_copyFault_42 (by decide) (fun c5 => ?_) (fun c5 => ?_)
      · have hs := it_t c5 hs
        refine lv_bipush (v := 11) F.1 F.2.1 dX9_copyFault_54 rfl ?_
        cases hs
        exact x_iret F rfl rfl hP hS dX9_copyFault_56
      have hs := it_f c5 hs
      refine lv_aload_n F.1 F.2.1 dX9_copyFault_45 rfl (lv_at hl 0 rfl) ?_
      refine gM_X9_26 F hP dX9_copyFault_46 ?_
      refine lv_iload_n F.1 F.2.1 dX9_copyFault_49 rfl (lv_at hl 3 rfl) ?_
      obtain ⟨g2, hs⟩ := gd_some hs
      refine x_iald F hP (arM_6 G q) g2 dX9_copyFault_50 ?_
      refine lv_if_ne (tgt := 57) F.1 F.2.1 dX9_copyFault_51 (by decide) (fun c6 => ?_) (fun c6 => ?_)
      · have hs := it_f c6 hs
        refine lv_iload F.1 F.2.1 dX9_copyFault_57 (lv_at hl 5 rfl) ?_
        refine lv_if_ge (tgt := 65) F.1 F.2.1 dX9_copyFault_59 (by decide) (fun c7 => ?_) (fun c7 => ?_)
        · have hs := it_t c7 hs
          refine lv_iload_n F.1 F.2.1 dX9_copyFault_65 rfl (lv_at hl 2 rfl) ?_
          refine lv_if_lt (tgt := 105) F.1 F.2.1 dX9_copyFault_66 (by decide) (fun c8 => ?_) (fun c8 => ?_)
          · have hs := it_t c8 hs
            refine lv_iconst (v := 0) F.1 F.2.1 dX9_copyFault_105 rfl ?_
            refine lv_istore (lv' := [(6, .int 0), (0, .ref (q 0)), (1, .int x1), (2, .int x2), (3, .int x3), (4, .int x4), (5, .int x5)]) F.1 F.2.1 dX9_copyFault_106 hl (by decide) rfl (fun ls hl => ?_)
            refine lv_iload F.1 F.2.1 dX9_copyFault_108 (lv_at hl 0 rfl) ?_
            refine lv_if_eq (tgt := 117) F.1 F.2.1 dX9_copyFault_110 (by decide) (fun c9 => ?_) (fun c9 => ?_)
            · refine lv_iconst (v := 3) F.1 F.2.1 dX9_copyFault_117 rfl ?_
              cases hs
              exact x_iret F rfl rfl hP hS dX9_copyFault_118
            exact absurd c9 (by decide)
          have hs := it_f c8 hs
          refine lv_iload F.1 F.2.1 dX9_copyFault_69 (lv_at hl 4 rfl) ?_
          refine lv_if_lt (tgt := 105) F.1 F.2.1 dX9_copyFault_71 (by decide) (fun c10 => ?_) (fun c10 => ?_)
          · have hs := it_t c10 hs
            refine lv_iconst (v := 0) F.1 F.2.1 dX9_copyFault_105 rfl ?_
            refine lv_istore (lv' := [(6, .int 0), (0, .ref (q 0)), (1, .int x1), (2, .int x2), (3, .int x3), (4, .int x4), (5, .int x5)]) F.1 F.2.1 dX9_copyFault_106 hl (by decide) rfl (fun ls hl => ?_)
            refine lv_iload F.1 F.2.1 dX9_copyFault_108 (lv_at hl 0 rfl) ?_
            refine lv_if_eq (tgt := 117) F.1 F.2.1 dX9_copyFault_110 (by decide) (fun c11 => ?_) (fun c11 => ?_)
            · refine lv_iconst (v := 3) F.1 F.2.1 dX9_copyFault_117 rfl ?_
              cases hs
              exact x_iret F rfl rfl hP hS dX9_copyFault_118
            exact absurd c11 (by decide)
          have hs := it_f c10 hs
          refine lv_iload_n F.1 F.2.1 dX9_copyFault_74 rfl (lv_at hl 2 rfl) ?_
          refine lv_iload F.1 F.2.1 dX9_copyFault_75 (lv_at hl 5 rfl) ?_
          refine lv_iadd F.1 F.2.1 dX9_copyFault_77 ?_
          refine lv_aload_n F.1 F.2.1 dX9_copyFault_78 rfl (lv_at hl 0 rfl) ?_
          refine gM_X9_29 F hP dX9_copyFault_79 ?_
          refine lv_iload_n F.1 F.2.1 dX9_copyFault_82 rfl (lv_at hl 1 rfl) ?_
          obtain ⟨g3, hs⟩ := gd_some hs
          refine x_iald F hP (arM_7 G q) g3 dX9_copyFault_83 ?_
          refine lv_icmp_gt (tgt := 105) F.1 F.2.1 dX9_copyFault_84 (by decide) (fun c12 => ?_) (fun c12 => ?_)
          · have hs := it_t c12 hs
            refine lv_iconst (v := 0) F.1 F.2.1 dX9_copyFault_105 rfl ?_
            refine lv_istore (lv' := [(6, .int 0), (0, .ref (q 0)), (1, .int x1), (2, .int x2), (3, .int x3), (4, .int x4), (5, .int x5)]) F.1 F.2.1 dX9_copyFault_106 hl (by decide) rfl (fun ls hl => ?_)
            refine lv_iload F.1 F.2.1 dX9_copyFault_108 (lv_at hl 0 rfl) ?_
            refine lv_if_eq (tgt := 117) F.1 F.2.1 dX9_copyFault_110 (by decide) (fun c13 => ?_) (fun c13 => ?_)
            · refine lv_iconst (v := 3) F.1 F.2.1 dX9_copyFault_117 rfl ?_
              cases hs
              exact x_iret F rfl rfl hP hS dX9_copyFault_118
            exact absurd c13 (by decide)
          have hs := it_f c12 hs
          refine lv_iload F.1 F.2.1 dX9_copyFault_87 (lv_at hl 4 rfl) ?_
          refine lv_iload F.1 F.2.1 dX9_copyFault_89 (lv_at hl 5 rfl) ?_
          refine lv_iadd F.1 F.2.1 dX9_copyFault_91 ?_
          refine lv_aload_n F.1 F.2.1 dX9_copyFault_92 rfl (lv_at hl 0 rfl) ?_
          refine gM_X9_29 F hP dX9_copyFault_93 ?_
          refine lv_iload_n F.1 F.2.1 dX9_copyFault_96 rfl (lv_at hl 3 rfl) ?_
          obtain ⟨g4, hs⟩ := gd_some hs
          refine x_iald F hP (arM_7 G q) g4 dX9_copyFault_97 ?_
          refine lv_icmp_gt (tgt := 105) F.1 F.2.1 dX9_copyFault_98 (by decide) (fun c14 => ?_) (fun c14 => ?_)
          · have hs := it_t c14 hs
            refine lv_iconst (v := 0) F.1 F.2.1 dX9_copyFault_105 rfl ?_
            refine lv_istore (lv' := [(6, .int 0), (0, .ref (q 0)), (1, .int x1), (2, .int x2), (3, .int x3), (4, .int x4), (5, .int x5)]) F.1 F.2.1 dX9_copyFault_106 hl (by decide) rfl (fun ls hl => ?_)
            refine lv_iload F.1 F.2.1 dX9_copyFault_108 (lv_at hl 0 rfl) ?_
            refine lv_if_eq (tgt := 117) F.1 F.2.1 dX9_copyFault_110 (by decide) (fun c15 => ?_) (fun c15 => ?_)
            · refine lv_iconst (v := 3) F.1 F.2.1 dX9_copyFault_117 rfl ?_
              cases hs
              exact x_iret F rfl rfl hP hS dX9_copyFault_118
            exact absurd c15 (by decide)
          have hs := it_f c14 hs
          refine lv_iconst (v := 1) F.1 F.2.1 dX9_copyFault_101 rfl ?_
          refine lv_goto (tgt := 106) F.1 F.2.1 dX9_copyFault_102 (by decide) ?_
          refine lv_istore (lv' := [(6, .int 1), (0, .ref (q 0)), (1, .int x1), (2, .int x2), (3, .int x3), (4, .int x4), (5, .int x5)]) F.1 F.2.1 dX9_copyFault_106 hl (by decide) rfl (fun ls hl => ?_)
          refine lv_iload F.1 F.2.1 dX9_copyFault_108 (lv_at hl 0 rfl) ?_
          refine lv_if_eq (tgt := 117) F.1 F.2.1 dX9_copyFault_110 (by decide) (fun c16 => ?_) (fun c16 => ?_)
          · exact absurd c16 (by decide)
          refine lv_iconst (v := 0) F.1 F.2.1 dX9_copyFault_113 rfl ?_
          refine lv_goto (tgt := 118) F.1 F.2.1 dX9_copyFault_114 (by decide) ?_
          cases hs
          exact x_iret F rfl rfl hP hS dX9_copyFault_118
        have hs := it_f c7 hs
        refine lv_bipush (v := 8) F.1 F.2.1 dX9_copyFault_62 rfl ?_
        cases hs
        exact x_iret F rfl rfl hP hS dX9_copyFault_64
      have hs := it_t c6 hs
      refine lv_bipush (v := 11) F.1 F.2.1 dX9_copyFault_54 rfl ?_
      cases hs
      exact x_iret F rfl rfl hP hS dX9_copyFault_56
    have hs := it_f c4 hs
    refine lv_iconst (v := 4) F.1 F.2.1 dX9_copyFault_34 rfl ?_
    cases hs
    exact x_iret F rfl rfl hP hS dX9_copyFault_35
  have hs := it_t c2 hs
  refine lv_iconst (v := 2) F.1 F.2.1 dX9_copyFault_16 rfl ?_
  cases hs
  exact x_iret F rfl rfl hP hS dX9_copyFault_17

def pX9_fault_b172 (M : St) (x1 : Int32) : Option Int32 :=
  if x1 = 31 then
    if M 0 13 = 0 then
      some 0
    else
      if M 0 14 = 20 then
        some 5
      else
        some 0
  else
    some 0
def pX9_fault_b136 (M : St) (x1 : Int32) (x2 : Int32) : Option Int32 :=
  if 32 ≤ x1 then
    pX9_fault_b172 M x1
  else
    bn (pX9_takes M x1) fun r1 =>
    bn (pX9_at M (r1 - 2)) fun r2 =>
    gd (inb x2 41) <|
    bn (pX9_isIn r2 0 ((M 7 (ix x2)) - 1)) fun r3 =>
    if r3 = 0 then
      some 3
    else
      pX9_fault_b172 M x1
def pX9_fault_b94 (M : St) (x1 : Int32) : Option Int32 :=
  bn (pX9_takes M x1) fun r1 =>
  bn (pX9_at M (r1 - 1)) fun r2 =>
  bn (pX9_isObject M r2) fun r3 =>
  if r3 = 0 then
    some 2
  else
    if x1 = 34 then
      pX9_fault_b136 M x1 r2
    else
      bn (pX9_isShut M r2) fun r4 =>
      if r4 = 0 then
        pX9_fault_b136 M x1 r2
      else
        some 4
def pX9_fault_b295 (M : St) (t0 : Int32) : Option Int32 :=
  if t0 = 0 then
    some 4
  else
    if M 0 24 = 8 then
      some 6
    else
      some 0
def pX9_fault_b248 (M : St) (x1 : Int32) : Option Int32 :=
  bn (pX9_byteAt M 1) fun r1 =>
  if x1 = 24 then
    gd (inb (r1 - r1 / 16 * 16) 16) <|
    bn (pX9_top M) fun r2 =>
    gd (inb r2 8) <|
    if M 2 (ix (r1 - r1 / 16 * 16)) = M 14 (ix r2) then
      pX9_fault_b295 M 1
    else
      pX9_fault_b295 M 0
  else
    gd (inb (r1 - r1 / 16 * 16) 16) <|
    pX9_fault_b295 M (M 4 (ix (r1 - r1 / 16 * 16)))
def pX9_fault_b374 (M : St) (t0 : Int32) : Option Int32 :=
  if t0 = 0 then
    some 8
  else
    if M 0 13 = 0 then
      bn (pX9_depth M) fun r1 =>
      if r1 = 16 then
        some 6
      else
        some 0
    else
      if M 0 14 = 20 then
        some 5
      else
        bn (pX9_depth M) fun r2 =>
        if r2 = 16 then
          some 6
        else
          some 0
def pX9_fault_b373 (M : St) : Option Int32 :=
  pX9_fault_b374 M 0
def pX9_fault_b332 (M : St) : Option Int32 :=
  bn (pX9_byteAt M 1) fun r1 =>
  bn (pX9_isIn r1 1 16) fun r2 =>
  if r2 = 0 then
    pX9_fault_b373 M
  else
    if 40 ≤ M 0 4 then
      pX9_fault_b373 M
    else
      if 240 < (M 0 10) + r1 then
        pX9_fault_b373 M
      else
        pX9_fault_b374 M 1
def pX9_fault_b464 (M : St) (x1 : Int32) : Option Int32 :=
  if x1 = 36 then
    if M 0 13 = 1 then
      some 9
    else
      some 0
  else
    if M 0 13 = 0 then
      some 9
    else
      some 0
def pX9_fault_b580 (M : St) : Option Int32 :=
  bn (pX9_depth M) fun r1 =>
  if r1 = 16 then
    some 6
  else
    some 0
def pX9_fault (M : St) : Option Int32 :=
  bn (pX9_here M) fun r1 =>
  if r1 < 0 then
    some 7
  else
    bn (pX9_here M) fun r2 =>
    if 512 ≤ r2 then
      some 7
    else
      bn (pX9_byteAt M 0) fun r3 =>
      if 45 < r3 then
        some 7
      else
        bn (pX9_here M) fun r4 =>
        bn (pX9_byteAt M 0) fun r5 =>
        bn (pX9_length r5) fun r6 =>
        if r4 + r6 ≤ 512 then
          bn (pX9_byteAt M 0) fun r7 =>
          bn (pX9_depth M) fun r8 =>
          bn (pX9_takes M r7) fun r9 =>
          if r9 ≤ r8 then
            if r7 = 30 then
              pX9_fault_b94 M r7
            else
              if r7 = 31 then
                pX9_fault_b94 M r7
              else
                if r7 = 32 then
                  pX9_fault_b94 M r7
                else
                  if r7 = 34 then
                    pX9_fault_b94 M r7
                  else
                    if r7 = 35 then
                      bn (pX9_at M 4) fun r14 =>
                      bn (pX9_at M 3) fun r15 =>
                      bn (pX9_at M 2) fun r16 =>
                      bn (pX9_at M 1) fun r17 =>
                      bn (pX9_at M 0) fun r18 =>
                      bn (pX9_copyFault M r14 r15 r16 r17 r18) fun r19 =>
                      some r19
                    else
                      if r7 = 24 then
                        pX9_fault_b248 M r7
                      else
                        if r7 = 27 then
                          pX9_fault_b248 M r7
                        else
                          if r7 = 28 then
                            pX9_fault_b332 M
                          else
                            if r7 = 29 then
                              pX9_fault_b332 M
                            else
                              if r7 = 9 then
                                bn (pX9_at M 0) fun r10 =>
                                if r10 = 0 then
                                  some 1
                                else
                                  some 0
                              else
                                if r7 = 10 then
                                  bn (pX9_at M 0) fun r13 =>
                                  if r13 = 0 then
                                    some 1
                                  else
                                    some 0
                                else
                                  if r7 = 36 then
                                    pX9_fault_b464 M r7
                                  else
                                    if r7 = 37 then
                                      pX9_fault_b464 M r7
                                    else
                                      if r7 = 38 then
                                        pX9_fault_b464 M r7
                                      else
                                        if r7 = 40 then
                                          bn (pX9_at M 0) fun r11 =>
                                          bn (pX9_isIn r11 0 ((M 0 21) - 1)) fun r12 =>
                                          if r12 = 0 then
                                            some 3
                                          else
                                            some 0
                                        else
                                          if r7 = 42 then
                                            if M 0 23 = 32 then
                                              some 6
                                            else
                                              some 0
                                          else
                                            if r7 = 1 then
                                              pX9_fault_b580 M
                                            else
                                              if r7 = 2 then
                                                pX9_fault_b580 M
                                              else
                                                if r7 = 3 then
                                                  pX9_fault_b580 M
                                                else
                                                  if r7 = 18 then
                                                    pX9_fault_b580 M
                                                  else
                                                    if r7 = 33 then
                                                      pX9_fault_b580 M
                                                    else
                                                      if r7 = 39 then
                                                        pX9_fault_b580 M
                                                      else
                                                        if r7 = 41 then
                                                          pX9_fault_b580 M
                                                        else
                                                          some 0
          else
            some 6
        else
          some 7
set_option maxHeartbeats 4000000 in
set_option maxRecDepth 100000 in
theorem tX9_fault_b172 {G : zG} {A : Nat → Prop} {q : Nat → Nat} (hq : zQD A 21 q) {M : St} {r : Int32} {x1 : Int32} (hs : pX9_fault_b172 M x1 = some r) {p : Program} {l : Launch} {e : Env} {s : State} {m : MethodId} {args : Array Value} {below : List Frame} {meth : Method} {c : Code} {H : Heap} {locs : List Loc} {ls : Array Slot} (F : zFx p s m args meth c cX9_fault RX9 4 (some .int) G A) (hP : (zP G.1 21 q (eM G q) M) H) (hS : va_S A s.heap H locs) (hl : lv_has ls 4 [(0, .ref (q 0)), (1, .int x1)]) : W p l e { frames := 4, cells := 0, slots := 0, locals := 82 } s m args below meth c H locs 0 0 (MQ below (va_Qi (fun (r' : Int32) (_ : Unit) => r' = r) (fun _ U => (zP G.1 21 q (eM G q) M) U.heap) A) args s 0 0 A) (F0 m 172 ls []) := by
  rw [pX9_fault_b172] at hs
  refine lv_iload_n F.1 F.2.1 dX9_fault_172 rfl (lv_at hl 1 rfl) ?_
  refine lv_bipush (v := 31) F.1 F.2.1 dX9_fault_173 rfl ?_
  refine lv_icmp_ne (tgt := 198) F.1 F.2.1 dX9_fault_175 (by decide) (fun c1 => ?_) (fun c1 => ?_)
  · have hs := it_f c1 hs
    refine lv_iconst (v := 0) F.1 F.2.1 dX9_fault_198 rfl ?_
    cases hs
    exact x_iret F rfl rfl hP hS dX9_fault_199
  have hs := it_t c1 hs
  refine lv_aload_n F.1 F.2.1 dX9_fault_178 rfl (lv_at hl 0 rfl) ?_
  refine gM_X9_131 F hP dX9_fault_179 ?_
  refine lv_if_eq (tgt := 198) F.1 F.2.1 dX9_fault_182 (by decide) (fun c2 => ?_) (fun c2 => ?_)
  · have hs := it_t c2 hs
    refine lv_iconst (v := 0) F.1 F.2.1 dX9_fault_198 rfl ?_
    cases hs
    exact x_iret F rfl rfl hP hS dX9_fault_199
  have hs := it_f c2 hs
  refine lv_aload_n F.1 F.2.1 dX9_fault_185 rfl (lv_at hl 0 rfl) ?_
  refine gM_X9_134 F hP dX9_fault_186 ?_
  refine lv_bipush (v := 20) F.1 F.2.1 dX9_fault_189 rfl ?_
  refine lv_icmp_ne (tgt := 198) F.1 F.2.1 dX9_fault_191 (by decide) (fun c3 => ?_) (fun c3 => ?_)
  · have hs := it_f c3 hs
    refine lv_iconst (v := 0) F.1 F.2.1 dX9_fault_198 rfl ?_
    cases hs
    exact x_iret F rfl rfl hP hS dX9_fault_199
  have hs := it_t c3 hs
  refine lv_iconst (v := 5) F.1 F.2.1 dX9_fault_194 rfl ?_
  refine lv_goto (tgt := 199) F.1 F.2.1 dX9_fault_195 (by decide) ?_
  cases hs
  exact x_iret F rfl rfl hP hS dX9_fault_199
set_option maxHeartbeats 4000000 in
set_option maxRecDepth 100000 in
theorem tX9_fault_b136 {G : zG} {A : Nat → Prop} {q : Nat → Nat} (hq : zQD A 21 q) {M : St} {r : Int32} {x1 : Int32} {x2 : Int32} (hs : pX9_fault_b136 M x1 x2 = some r) {p : Program} {l : Launch} {e : Env} {s : State} {m : MethodId} {args : Array Value} {below : List Frame} {meth : Method} {c : Code} {H : Heap} {locs : List Loc} {ls : Array Slot} (F : zFx p s m args meth c cX9_fault RX9 4 (some .int) G A) (hP : (zP G.1 21 q (eM G q) M) H) (hS : va_S A s.heap H locs) (hl : lv_has ls 4 [(0, .ref (q 0)), (1, .int x1), (2, .int x2)]) : W p l e { frames := 4, cells := 0, slots := 0, locals := 82 } s m args below meth c H locs 0 0 (MQ below (va_Qi (fun (r' : Int32) (_ : Unit) => r' = r) (fun _ U => (zP G.1 21 q (eM G q) M) U.heap) A) args s 0 0 A) (F0 m 136 ls []) := by
  rw [pX9_fault_b136] at hs
  refine lv_iload_n F.1 F.2.1 dX9_fault_136 rfl (lv_at hl 1 rfl) ?_
  refine lv_bipush (v := 32) F.1 F.2.1 dX9_fault_137 rfl ?_
  refine lv_icmp_ge (tgt := 172) F.1 F.2.1 dX9_fault_139 (by decide) (fun c1 => ?_) (fun c1 => ?_)
  · have hs := it_t c1 hs
    exact tX9_fault_b172 hq hs F hP hS (lv_sub hl [0, 1] rfl)
  have hs := it_f c1 hs
  refine lv_aload_n F.1 F.2.1 dX9_fault_142 rfl (lv_at hl 0 rfl) ?_
  refine lv_aload_n F.1 F.2.1 dX9_fault_143 rfl (lv_at hl 0 rfl) ?_
  refine lv_iload_n F.1 F.2.1 dX9_fault_144 rfl (lv_at hl 1 rfl) ?_
  obtain ⟨r1, h1, hs⟩ := bn_some hs
  refine x_callI (rest := [.ref (q 0)]) wv_X9_118 F hS (fun _ h => h) hS.2.1 (tX9_takes l G A q hq h1) hP (x_recv (ci := 7) F hP rfl (by decide) (eM_0 G q _)) rfl hl.1 rfl ⟨Nat.le_of_ble_eq_true rfl, Nat.le_of_ble_eq_true rfl⟩ ⟨Nat.le_refl _, Nat.le_refl _⟩ (Nat.le_of_ble_eq_true rfl) dX9_fault_145 (fun H locs hP hS _ _ => ?_)
  refine lv_iconst (v := 2) F.1 F.2.1 dX9_fault_148 rfl ?_
  refine lv_isub F.1 F.2.1 dX9_fault_149 ?_
  obtain ⟨r2, h2, hs⟩ := bn_some hs
  refine x_callI (rest := []) wv_X9_121 F hS (fun _ h => h) hS.2.1 (tX9_at l G A q hq h2) hP (x_recv (ci := 7) F hP rfl (by decide) (eM_0 G q _)) rfl hl.1 rfl ⟨Nat.le_of_ble_eq_true rfl, Nat.le_of_ble_eq_true rfl⟩ ⟨Nat.le_refl _, Nat.le_refl _⟩ (Nat.le_of_ble_eq_true rfl) dX9_fault_150 (fun H locs hP hS _ _ => ?_)
  refine lv_iconst (v := 0) F.1 F.2.1 dX9_fault_153 rfl ?_
  refine lv_aload_n F.1 F.2.1 dX9_fault_154 rfl (lv_at hl 0 rfl) ?_
  refine gM_X9_29 F hP dX9_fault_155 ?_
  refine lv_iload_n F.1 F.2.1 dX9_fault_158 rfl (lv_at hl 2 rfl) ?_
  obtain ⟨g1, hs⟩ := gd_some hs
  refine x_iald F hP (arM_7 G q) g1 dX9_fault_159 ?_
  refine lv_iconst (v := 1) F.1 F.2.1 dX9_fault_160 rfl ?_
  refine lv_isub F.1 F.2.1 dX9_fault_161 ?_
  obtain ⟨r3, h3, hs⟩ := bn_some hs
  refine x_callSI (rest := []) wv_X9_89 F hS (fun _ h => h) hS.2.1 (tX9_isIn l G A (zP G.1 21 q (eM G q) M) h3) hP rfl hl.1 rfl ⟨Nat.le_of_ble_eq_true rfl, Nat.le_of_ble_eq_true rfl⟩ ⟨Nat.le_refl _, Nat.le_refl _⟩ (Nat.le_of_ble_eq_true rfl) dX9_fault_162 (fun H locs hP hS _ _ => ?_)
  refine lv_if_ne (tgt := 172) F.1 F.2.1 dX9_fault_165 (by decide) (fun c2 => ?_) (fun c2 => ?_)
  · have hs := it_f c2 hs
    exact tX9_fault_b172 hq hs F hP hS (lv_sub hl [0, 1] rfl)
  have hs := it_t c2 hs
  refine lv_iconst (v := 3) F.1 F.2.1 dX9_fault_168 rfl ?_
  refine lv_goto (tgt := 199) F.1 F.2.1 dX9_fault_169 (by decide) ?_
  cases hs
  exact x_iret F rfl rfl hP hS dX9_fault_199
set_option maxHeartbeats 4000000 in
set_option maxRecDepth 100000 in
theorem tX9_fault_b94 {G : zG} {A : Nat → Prop} {q : Nat → Nat} (hq : zQD A 21 q) {M : St} {r : Int32} {x1 : Int32} (hs : pX9_fault_b94 M x1 = some r) {p : Program} {l : Launch} {e : Env} {s : State} {m : MethodId} {args : Array Value} {below : List Frame} {meth : Method} {c : Code} {H : Heap} {locs : List Loc} {ls : Array Slot} (F : zFx p s m args meth c cX9_fault RX9 4 (some .int) G A) (hP : (zP G.1 21 q (eM G q) M) H) (hS : va_S A s.heap H locs) (hl : lv_has ls 4 [(0, .ref (q 0)), (1, .int x1)]) : W p l e { frames := 4, cells := 0, slots := 0, locals := 82 } s m args below meth c H locs 0 0 (MQ below (va_Qi (fun (r' : Int32) (_ : Unit) => r' = r) (fun _ U => (zP G.1 21 q (eM G q) M) U.heap) A) args s 0 0 A) (F0 m 94 ls []) := by
  rw [pX9_fault_b94] at hs
  refine lv_aload_n F.1 F.2.1 dX9_fault_94 rfl (lv_at hl 0 rfl) ?_
  refine lv_aload_n F.1 F.2.1 dX9_fault_95 rfl (lv_at hl 0 rfl) ?_
  refine lv_iload_n F.1 F.2.1 dX9_fault_96 rfl (lv_at hl 1 rfl) ?_
  obtain ⟨r1, h1, hs⟩ := bn_some hs
  refine x_callI (rest := [.ref (q 0)]) wv_X9_118 F hS (fun _ h => h) hS.2.1 (tX9_takes l G A q hq h1) hP (x_recv (ci := 7) F hP rfl (by decide) (eM_0 G q _)) rfl hl.1 rfl ⟨Nat.le_of_ble_eq_true rfl, Nat.le_of_ble_eq_true rfl⟩ ⟨Nat.le_refl _, Nat.le_refl _⟩ (Nat.le_of_ble_eq_true rfl) dX9_fault_97 (fun H locs hP hS _ _ => ?_)
  refine lv_iconst (v := 1) F.1 F.2.1 dX9_fault_100 rfl ?_
  refine lv_isub F.1 F.2.1 dX9_fault_101 ?_
  obtain ⟨r2, h2, hs⟩ := bn_some hs
  refine x_callI (rest := []) wv_X9_121 F hS (fun _ h => h) hS.2.1 (tX9_at l G A q hq h2) hP (x_recv (ci := 7) F hP rfl (by decide) (eM_0 G q _)) rfl hl.1 rfl ⟨Nat.le_of_ble_eq_true rfl, Nat.le_of_ble_eq_true rfl⟩ ⟨Nat.le_refl _, Nat.le_refl _⟩ (Nat.le_of_ble_eq_true rfl) dX9_fault_102 (fun H locs hP hS _ _ => ?_)
  refine lv_istore_n (lv' := [(2, .int r2), (0, .ref (q 0)), (1, .int x1)]) F.1 F.2.1 dX9_fault_105 rfl hl (by decide) rfl (fun ls hl => ?_)
  refine lv_aload_n F.1 F.2.1 dX9_fault_106 rfl (lv_at hl 1 rfl) ?_
  refine lv_iload_n F.1 F.2.1 dX9_fault_107 rfl (lv_at hl 0 rfl) ?_
  obtain ⟨r3, h3, hs⟩ := bn_some hs
  refine x_callI (rest := []) wv_X9_124 F hS (fun _ h => h) hS.2.1 (tX9_isObject l G A q hq h3) hP (x_recv (ci := 7) F hP rfl (by decide) (eM_0 G q _)) rfl hl.1 rfl ⟨Nat.le_of_ble_eq_true rfl, Nat.le_of_ble_eq_true rfl⟩ ⟨Nat.le_refl _, Nat.le_refl _⟩ (Nat.le_of_ble_eq_true rfl) dX9_fault_108 (fun H locs hP hS _ _ => ?_)
  refine lv_if_ne (tgt := 118) F.1 F.2.1 dX9_fault_111 (by decide) (fun c1 => ?_) (fun c1 => ?_)
  · have hs := it_f c1 hs
    refine lv_iload_n F.1 F.2.1 dX9_fault_118 rfl (lv_at hl 2 rfl) ?_
    refine lv_bipush (v := 34) F.1 F.2.1 dX9_fault_119 rfl ?_
    refine lv_icmp_eq (tgt := 136) F.1 F.2.1 dX9_fault_121 (by decide) (fun c2 => ?_) (fun c2 => ?_)
    · have hs := it_t c2 hs
      exact tX9_fault_b136 hq hs F hP hS (lv_sub hl [1, 2, 0] rfl)
    have hs := it_f c2 hs
    refine lv_aload_n F.1 F.2.1 dX9_fault_124 rfl (lv_at hl 1 rfl) ?_
    refine lv_iload_n F.1 F.2.1 dX9_fault_125 rfl (lv_at hl 0 rfl) ?_
    obtain ⟨r4, h4, hs⟩ := bn_some hs
    refine x_callI (rest := []) wv_X9_128 F hS (fun _ h => h) hS.2.1 (tX9_isShut l G A q hq h4) hP (x_recv (ci := 7) F hP rfl (by decide) (eM_0 G q _)) rfl hl.1 rfl ⟨Nat.le_of_ble_eq_true rfl, Nat.le_of_ble_eq_true rfl⟩ ⟨Nat.le_refl _, Nat.le_refl _⟩ (Nat.le_of_ble_eq_true rfl) dX9_fault_126 (fun H locs hP hS _ _ => ?_)
    refine lv_if_eq (tgt := 136) F.1 F.2.1 dX9_fault_129 (by decide) (fun c3 => ?_) (fun c3 => ?_)
    · have hs := it_t c3 hs
      exact tX9_fault_b136 hq hs F hP hS (lv_sub hl [1, 2, 0] rfl)
    have hs := it_f c3 hs
    refine lv_iconst (v := 4) F.1 F.2.1 dX9_fault_132 rfl ?_
    refine lv_goto (tgt := 199) F.1 F.2.1 dX9_fault_133 (by decide) ?_
    cases hs
    exact x_iret F rfl rfl hP hS dX9_fault_199
  have hs := it_t c1 hs
  refine lv_iconst (v := 2) F.1 F.2.1 dX9_fault_114 rfl ?_
  refine lv_goto (tgt := 199) F.1 F.2.1 dX9_fault_115 (by decide) ?_
  cases hs
  exact x_iret F rfl rfl hP hS dX9_fault_199
set_option maxHeartbeats 4000000 in
set_option maxRecDepth 100000 in
theorem tX9_fault_b295 {G : zG} {A : Nat → Prop} {q : Nat → Nat} (hq : zQD A 21 q) {M : St} {r : Int32} {t0 : Int32} (hs : pX9_fault_b295 M t0 = some r) {p : Program} {l : Launch} {e : Env} {s : State} {m : MethodId} {args : Array Value} {below : List Frame} {meth : Method} {c : Code} {H : Heap} {locs : List Loc} {ls : Array Slot} (F : zFx p s m args meth c cX9_fault RX9 4 (some .int) G A) (hP : (zP G.1 21 q (eM G q) M) H) (hS : va_S A s.heap H locs) (hl : lv_has ls 4 [(0, .ref (q 0))]) : W p l e { frames := 4, cells := 0, slots := 0, locals := 82 } s m args below meth c H locs 0 0 (MQ below (va_Qi (fun (r' : Int32) (_ : Unit) => r' = r) (fun _ U => (zP G.1 21 q (eM G q) M) U.heap) A) args s 0 0 A) (F0 m 295 ls [.int t0]) := by
  rw [pX9_fault_b295] at hs
  refine lv_istore_n (lv' := [(3, .int t0), (0, .ref (q 0))]) F.1 F.2.1 dX9_fault_295 rfl hl (by decide) rfl (fun ls hl => ?_)
  refine lv_iload_n F.1 F.2.1 dX9_fault_296 rfl (lv_at hl 0 rfl) ?_
  refine lv_if_ne (tgt := 304) F.1 F.2.1 dX9_fault_297 (by decide) (fun c1 => ?_) (fun c1 => ?_)
  · have hs := it_f c1 hs
    refine lv_aload_n F.1 F.2.1 dX9_fault_304 rfl (lv_at hl 1 rfl) ?_
    refine gM_X9_98 F hP dX9_fault_305 ?_
    refine lv_bipush (v := 8) F.1 F.2.1 dX9_fault_308 rfl ?_
    refine lv_icmp_ne (tgt := 318) F.1 F.2.1 dX9_fault_310 (by decide) (fun c2 => ?_) (fun c2 => ?_)
    · have hs := it_f c2 hs
      refine lv_iconst (v := 0) F.1 F.2.1 dX9_fault_318 rfl ?_
      cases hs
      exact x_iret F rfl rfl hP hS dX9_fault_319
    have hs := it_t c2 hs
    refine lv_bipush (v := 6) F.1 F.2.1 dX9_fault_313 rfl ?_
    refine lv_goto (tgt := 319) F.1 F.2.1 dX9_fault_315 (by decide) ?_
    cases hs
    exact x_iret F rfl rfl hP hS dX9_fault_319
  have hs := it_t c1 hs
  refine lv_iconst (v := 4) F.1 F.2.1 dX9_fault_300 rfl ?_
  refine lv_goto (tgt := 319) F.1 F.2.1 dX9_fault_301 (by decide) ?_
  cases hs
  exact x_iret F rfl rfl hP hS dX9_fault_319
set_option maxHeartbeats 4000000 in
set_option maxRecDepth 100000 in
theorem tX9_fault_b248 {G : zG} {A : Nat → Prop} {q : Nat → Nat} (hq : zQD A 21 q) {M : St} {r : Int32} {x1 : Int32} (hs : pX9_fault_b248 M x1 = some r) {p : Program} {l : Launch} {e : Env} {s : State} {m : MethodId} {args : Array Value} {below : List Frame} {meth : Method} {c : Code} {H : Heap} {locs : List Loc} {ls : Array Slot} (F : zFx p s m args meth c cX9_fault RX9 4 (some .int) G A) (hP : (zP G.1 21 q (eM G q) M) H) (hS : va_S A s.heap H locs) (hl : lv_has ls 4 [(0, .ref (q 0)), (1, .int x1)]) : W p l e { frames := 4, cells := 0, slots := 0, locals := 82 } s m args below meth c H locs 0 0 (MQ below (va_Qi (fun (r' : Int32) (_ : Unit) => r' = r) (fun _ U => (zP G.1 21 q (eM G q) M) U.heap) A) args s 0 0 A) (F0 m 248 ls []) := by
  rw [pX9_fault_b248] at hs
  refine lv_aload_n F.1 F.2.1 dX9_fault_248 rfl (lv_at hl 0 rfl) ?_
  refine lv_iconst (v := 1) F.1 F.2.1 dX9_fault_249 rfl ?_
  obtain ⟨r1, h1, hs⟩ := bn_some hs
  refine x_callI (rest := []) wv_X9_111 F hS (fun _ h => h) hS.2.1 (tX9_byteAt l G A q hq h1) hP (x_recv (ci := 7) F hP rfl (by decide) (eM_0 G q _)) rfl hl.1 rfl ⟨Nat.le_of_ble_eq_true rfl, Nat.le_of_ble_eq_true rfl⟩ ⟨Nat.le_refl _, Nat.le_refl _⟩ (Nat.le_of_ble_eq_true rfl) dX9_fault_250 (fun H locs hP hS _ _ => ?_)
  refine lv_bipush (v := 16) F.1 F.2.1 dX9_fault_253 rfl ?_
  refine lv_irem F.1 F.2.1 dX9_fault_255 (by decide) ?_
  refine lv_istore_n (lv' := [(2, .int (r1 - r1 / 16 * 16)), (0, .ref (q 0)), (1, .int x1)]) F.1 F.2.1 dX9_fault_256 rfl hl (by decide) rfl (fun ls hl => ?_)
  refine lv_iload_n F.1 F.2.1 dX9_fault_257 rfl (lv_at hl 2 rfl) ?_
  refine lv_bipush (v := 24) F.1 F.2.1 dX9_fault_258 rfl ?_
  refine lv_icmp_ne (tgt := 289) F.1 F.2.1 dX9_fault_260 (by decide) (fun c1 => ?_) (fun c1 => ?_)
  · have hs := it_f c1 hs
    refine lv_aload_n F.1 F.2.1 dX9_fault_289 rfl (lv_at hl 1 rfl) ?_
    refine gM_X9_19 F hP dX9_fault_290 ?_
    refine lv_iload_n F.1 F.2.1 dX9_fault_293 rfl (lv_at hl 0 rfl) ?_
    obtain ⟨g1, hs⟩ := gd_some hs
    refine x_zald F hP (arM_4 G q) g1 dX9_fault_294 ?_
    exact tX9_fault_b295 hq hs F hP hS (lv_sub hl [1] rfl)
  have hs := it_t c1 hs
  refine lv_aload_n F.1 F.2.1 dX9_fault_263 rfl (lv_at hl 1 rfl) ?_
  refine gM_X9_13 F hP dX9_fault_264 ?_
  refine lv_iload_n F.1 F.2.1 dX9_fault_267 rfl (lv_at hl 0 rfl) ?_
  obtain ⟨g2, hs⟩ := gd_some hs
  refine x_iald F hP (arM_2 G q) g2 dX9_fault_268 ?_
  refine lv_aload_n F.1 F.2.1 dX9_fault_269 rfl (lv_at hl 1 rfl) ?_
  refine gM_X9_58 F hP dX9_fault_270 ?_
  refine lv_aload_n F.1 F.2.1 dX9_fault_273 rfl (lv_at hl 1 rfl) ?_
  obtain ⟨r2, h2, hs⟩ := bn_some hs
  refine x_callI (rest := [.ref (q 14), .int (M 2 (ix (r1 - r1 / 16 * 16)))]) wv_X9_101 F hS (fun _ h => h) hS.2.1 (tX9_top l G A q hq h2) hP (x_recv (ci := 7) F hP rfl (by decide) (eM_0 G q _)) rfl hl.1 rfl ⟨Nat.le_of_ble_eq_true rfl, Nat.le_of_ble_eq_true rfl⟩ ⟨Nat.le_refl _, Nat.le_refl _⟩ (Nat.le_of_ble_eq_true rfl) dX9_fault_274 (fun H locs hP hS _ _ => ?_)
  obtain ⟨g3, hs⟩ := gd_some hs
  refine x_iald F hP (arM_14 G q) g3 dX9_fault_277 ?_
  refine lv_icmp_ne (tgt := 285) F.1 F.2.1 dX9_fault_278 (by decide) (fun c2 => ?_) (fun c2 => ?_)
  · have hs := it_f c2 hs
    refine lv_iconst (v := 0) F.1 F.2.1 dX9_fault_285 rfl ?_
    refine lv_goto (tgt := 295) F.1 F.2.1 dX9_fault_286 (by decide) ?_
    exact tX9_fault_b295 hq hs F hP hS (lv_sub hl [1] rfl)
  have hs := it_t c2 hs
  refine lv_iconst (v := 1) F.1 F.2.1 dX9_fault_281 rfl ?_
  refine lv_goto (tgt := 295) F.1 F.2.1 dX9_fault_282 (by decide) ?_
  exact tX9_fault_b295 hq hs F hP hS (lv_sub hl [1] rfl)
set_option maxHeartbeats 4000000 in
set_option maxRecDepth 100000 in
theorem tX9_fault_b374 {G : zG} {A : Nat → Prop} {q : Nat → Nat} (hq : zQD A 21 q) {M : St} {r : Int32} {t0 : Int32} (hs : pX9_fault_b374 M t0 = some r) {p : Program} {l : Launch} {e : Env} {s : State} {m : MethodId} {args : Array Value} {below : List Frame} {meth : Method} {c : Code} {H : Heap} {locs : List Loc} {ls : Array Slot} (F : zFx p s m args meth c cX9_fault RX9 4 (some .int) G A) (hP : (zP G.1 21 q (eM G q) M) H) (hS : va_S A s.heap H locs) (hl : lv_has ls 4 [(0, .ref (q 0))]) : W p l e { frames := 4, cells := 0, slots := 0, locals := 82 } s m args below meth c H locs 0 0 (MQ below (va_Qi (fun (r' : Int32) (_ : Unit) => r' = r) (fun _ U => (zP G.1 21 q (eM G q) M) U.heap) A) args s 0 0 A) (F0 m 374 ls [.int t0]) := by
  rw [pX9_fault_b374] at hs
  refine lv_istore_n (lv' := [(3, .int t0), (0, .ref (q 0))]) F.1 F.2.1 dX9_fault_374 rfl hl (by decide) rfl (fun ls hl => ?_)
  refine lv_iload_n F.1 F.2.1 dX9_fault_375 rfl (lv_at hl 0 rfl) ?_
  refine lv_if_ne (tgt := 384) F.1 F.2.1 dX9_fault_376 (by decide) (fun c1 => ?_) (fun c1 => ?_)
  · have hs := it_f c1 hs
    refine lv_aload_n F.1 F.2.1 dX9_fault_384 rfl (lv_at hl 1 rfl) ?_
    refine gM_X9_131 F hP dX9_fault_385 ?_
    refine lv_if_eq (tgt := 404) F.1 F.2.1 dX9_fault_388 (by decide) (fun c2 => ?_) (fun c2 => ?_)
    · have hs := it_t c2 hs
      refine lv_aload_n F.1 F.2.1 dX9_fault_404 rfl (lv_at hl 1 rfl) ?_
      obtain ⟨r1, h1, hs⟩ := bn_some hs
      refine x_callI (rest := []) wv_X9_105 F hS (fun _ h => h) hS.2.1 (tX9_depth l G A q hq h1) hP (x_recv (ci := 7) F hP rfl (by decide) (eM_0 G q _)) rfl hl.1 rfl ⟨Nat.le_of_ble_eq_true rfl, Nat.le_of_ble_eq_true rfl⟩ ⟨Nat.le_refl _, Nat.le_refl _⟩ (Nat.le_of_ble_eq_true rfl) dX9_fault_405 (fun H locs hP hS _ _ => ?_)
      refine lv_bipush (v := 16) F.1 F.2.1 dX9_fault_408 rfl ?_
      refine lv_icmp_ne (tgt := 418) F.1 F.2.1 dX9_fault_410 (by decide) (fun c3 => ?_) (fun c3 => ?_)
      · have hs := it_f c3 hs
        refine lv_iconst (v := 0) F.1 F.2.1 dX9_fault_418 rfl ?_
        cases hs
        exact x_iret F rfl rfl hP hS dX9_fault_419
      have hs := it_t c3 hs
      refine lv_bipush (v := 6) F.1 F.2.1 dX9_fault_413 rfl ?_
      refine lv_goto (tgt := 419) F.1 F.2.1 dX9_fault_415 (by decide) ?_
      cases hs
      exact x_iret F rfl rfl hP hS dX9_fault_419
    have hs := it_f c2 hs
    refine lv_aload_n F.1 F.2.1 dX9_fault_391 rfl (lv_at hl 1 rfl) ?_
    refine gM_X9_134 F hP dX9_fault_392 ?_
    refine lv_bipush (v := 20) F.1 F.2.1 dX9_fault_395 rfl ?_
    refine lv_icmp_ne (tgt := 404) F.1 F.2.1 dX9_fault_397 (by decide) (fun c4 => ?_) (fun c4 => ?_)
    · have hs := it_f c4 hs
      refine lv_aload_n F.1 F.2.1 dX9_fault_404 rfl (lv_at hl 1 rfl) ?_
      obtain ⟨r2, h2, hs⟩ := bn_some hs
      refine x_callI (rest := []) wv_X9_105 F hS (fun _ h => h) hS.2.1 (tX9_depth l G A q hq h2) hP (x_recv (ci := 7) F hP rfl (by decide) (eM_0 G q _)) rfl hl.1 rfl ⟨Nat.le_of_ble_eq_true rfl, Nat.le_of_ble_eq_true rfl⟩ ⟨Nat.le_refl _, Nat.le_refl _⟩ (Nat.le_of_ble_eq_true rfl) dX9_fault_405 (fun H locs hP hS _ _ => ?_)
      refine lv_bipush (v := 16) F.1 F.2.1 dX9_fault_408 rfl ?_
      refine lv_icmp_ne (tgt := 418) F.1 F.2.1 dX9_fault_410 (by decide) (fun c5 => ?_) (fun c5 => ?_)
      · have hs := it_f c5 hs
        refine lv_iconst (v := 0) F.1 F.2.1 dX9_fault_418 rfl ?_
        cases hs
        exact x_iret F rfl rfl hP hS dX9_fault_419
      have hs := it_t c5 hs
      refine lv_bipush (v := 6) F.1 F.2.1 dX9_fault_413 rfl ?_
      refine lv_goto (tgt := 419) F.1 F.2.1 dX9_fault_415 (by decide) ?_
      cases hs
      exact x_iret F rfl rfl hP hS dX9_fault_419
    have hs := it_t c4 hs
    refine lv_iconst (v := 5) F.1 F.2.1 dX9_fault_400 rfl ?_
    refine lv_goto (tgt := 419) F.1 F.2.1 dX9_fault_401 (by decide) ?_
    cases hs
    exact x_iret F rfl rfl hP hS dX9_fault_419
  have hs := it_t c1 hs
  refine lv_bipush (v := 8) F.1 F.2.1 dX9_fault_379 rfl ?_
  refine lv_goto (tgt := 419) F.1 F.2.1 dX9_fault_381 (by decide) ?_
  cases hs
  exact x_iret F rfl rfl hP hS dX9_fault_419
set_option maxHeartbeats 4000000 in
set_option maxRecDepth 100000 in
theorem tX9_fault_b373 {G : zG} {A : Nat → Prop} {q : Nat → Nat} (hq : zQD A 21 q) {M : St} {r : Int32} (hs : pX9_fault_b373 M = some r) {p : Program} {l : Launch} {e : Env} {s : State} {m : MethodId} {args : Array Value} {below : List Frame} {meth : Method} {c : Code} {H : Heap} {locs : List Loc} {ls : Array Slot} (F : zFx p s m args meth c cX9_fault RX9 4 (some .int) G A) (hP : (zP G.1 21 q (eM G q) M) H) (hS : va_S A s.heap H locs) (hl : lv_has ls 4 [(0, .ref (q 0))]) : W p l e { frames := 4, cells := 0, slots := 0, locals := 82 } s m args below meth c H locs 0 0 (MQ below (va_Qi (fun (r' : Int32) (_ : Unit) => r' = r) (fun _ U => (zP G.1 21 q (eM G q) M) U.heap) A) args s 0 0 A) (F0 m 373 ls []) := by
  rw [pX9_fault_b373] at hs
  refine lv_iconst (v := 0) F.1 F.2.1 dX9_fault_373 rfl ?_
  exact tX9_fault_b374 hq hs F hP hS (lv_sub hl [0] rfl)
set_option maxHeartbeats 4000000 in
set_option maxRecDepth 100000 in
theorem tX9_fault_b332 {G : zG} {A : Nat → Prop} {q : Nat → Nat} (hq : zQD A 21 q) {M : St} {r : Int32} (hs : pX9_fault_b332 M = some r) {p : Program} {l : Launch} {e : Env} {s : State} {m : MethodId} {args : Array Value} {below : List Frame} {meth : Method} {c : Code} {H : Heap} {locs : List Loc} {ls : Array Slot} (F : zFx p s m args meth c cX9_fault RX9 4 (some .int) G A) (hP : (zP G.1 21 q (eM G q) M) H) (hS : va_S A s.heap H locs) (hl : lv_has ls 4 [(0, .ref (q 0))]) : W p l e { frames := 4, cells := 0, slots := 0, locals := 82 } s m args below meth c H locs 0 0 (MQ below (va_Qi (fun (r' : Int32) (_ : Unit) => r' = r) (fun _ U => (zP G.1 21 q (eM G q) M) U.heap) A) args s 0 0 A) (F0 m 332 ls []) := by
  rw [pX9_fault_b332] at hs
  refine lv_aload_n F.1 F.2.1 dX9_fault_332 rfl (lv_at hl 0 rfl) ?_
  refine lv_iconst (v := 1) F.1 F.2.1 dX9_fault_333 rfl ?_
  obtain ⟨r1, h1, hs⟩ := bn_some hs
  refine x_callI (rest := []) wv_X9_111 F hS (fun _ h => h) hS.2.1 (tX9_byteAt l G A q hq h1) hP (x_recv (ci := 7) F hP rfl (by decide) (eM_0 G q _)) rfl hl.1 rfl ⟨Nat.le_of_ble_eq_true rfl, Nat.le_of_ble_eq_true rfl⟩ ⟨Nat.le_refl _, Nat.le_refl _⟩ (Nat.le_of_ble_eq_true rfl) dX9_fault_334 (fun H locs hP hS _ _ => ?_)
  refine lv_istore_n (lv' := [(2, .int r1), (0, .ref (q 0))]) F.1 F.2.1 dX9_fault_337 rfl hl (by decide) rfl (fun ls hl => ?_)
  refine lv_iload_n F.1 F.2.1 dX9_fault_338 rfl (lv_at hl 0 rfl) ?_
  refine lv_iconst (v := 1) F.1 F.2.1 dX9_fault_339 rfl ?_
  refine lv_bipush (v := 16) F.1 F.2.1 dX9_fault_340 rfl ?_
  obtain ⟨r2, h2, hs⟩ := bn_some hs
  refine x_callSI (rest := []) wv_X9_89 F hS (fun _ h => h) hS.2.1 (tX9_isIn l G A (zP G.1 21 q (eM G q) M) h2) hP rfl hl.1 rfl ⟨Nat.le_of_ble_eq_true rfl, Nat.le_of_ble_eq_true rfl⟩ ⟨Nat.le_refl _, Nat.le_refl _⟩ (Nat.le_of_ble_eq_true rfl) dX9_fault_342 (fun H locs hP hS _ _ => ?_)
  refine lv_if_eq (tgt := 373) F.1 F.2.1 dX9_fault_345 (by decide) (fun c1 => ?_) (fun c1 => ?_)
  · have hs := it_t c1 hs
    exact tX9_fault_b373 hq hs F hP hS (lv_sub hl [1] rfl)
  have hs := it_f c1 hs
  refine lv_aload_n F.1 F.2.1 dX9_fault_348 rfl (lv_at hl 1 rfl) ?_
  refine gM_X9_83 F hP dX9_fault_349 ?_
  refine lv_bipush (v := 40) F.1 F.2.1 dX9_fault_352 rfl ?_
  refine lv_icmp_ge (tgt := 373) F.1 F.2.1 dX9_fault_354 (by decide) (fun c2 => ?_) (fun c2 => ?_)
  · have hs := it_t c2 hs
    exact tX9_fault_b373 hq hs F hP hS (lv_sub hl [1] rfl)
  have hs := it_f c2 hs
  refine lv_aload_n F.1 F.2.1 dX9_fault_357 rfl (lv_at hl 1 rfl) ?_
  refine gM_X9_86 F hP dX9_fault_358 ?_
  refine lv_iload_n F.1 F.2.1 dX9_fault_361 rfl (lv_at hl 0 rfl) ?_
  refine lv_iadd F.1 F.2.1 dX9_fault_362 ?_
  refine lv_sipush (v := 240) F.1 F.2.1 dX9_fault_363 rfl ?_
  refine lv_icmp_gt (tgt := 373) F.1 F.2.1 dX9_fault_366 (by decide) (fun c3 => ?_) (fun c3 => ?_)
  · have hs := it_t c3 hs
    exact tX9_fault_b373 hq hs F hP hS (lv_sub hl [1] rfl)
  have hs := it_f c3 hs
  refine lv_iconst (v := 1) F.1 F.2.1 dX9_fault_369 rfl ?_
  refine lv_goto (tgt := 374) F.1 F.2.1 dX9_fault_370 (by decide) ?_
  exact tX9_fault_b374 hq hs F hP hS (lv_sub hl [1] rfl)
set_option maxHeartbeats 4000000 in
set_option maxRecDepth 100000 in
theorem tX9_fault_b464 {G : zG} {A : Nat → Prop} {q : Nat → Nat} (hq : zQD A 21 q) {M : St} {r : Int32} {x1 : Int32} (hs : pX9_fault_b464 M x1 = some r) {p : Program} {l : Launch} {e : Env} {s : State} {m : MethodId} {args : Array Value} {below : List Frame} {meth : Method} {c : Code} {H : Heap} {locs : List Loc} {ls : Array Slot} (F : zFx p s m args meth c cX9_fault RX9 4 (some .int) G A) (hP : (zP G.1 21 q (eM G q) M) H) (hS : va_S A s.heap H locs) (hl : lv_has ls 4 [(0, .ref (q 0)), (1, .int x1)]) : W p l e { frames := 4, cells := 0, slots := 0, locals := 82 } s m args below meth c H locs 0 0 (MQ below (va_Qi (fun (r' : Int32) (_ : Unit) => r' = r) (fun _ U => (zP G.1 21 q (eM G q) M) U.heap) A) args s 0 0 A) (F0 m 464 ls []) := by
  rw [pX9_fault_b464] at hs
  refine lv_aload_n F.1 F.2.1 dX9_fault_464 rfl (lv_at hl 0 rfl) ?_
  refine gM_X9_131 F hP dX9_fault_465 ?_
  refine lv_iload_n F.1 F.2.1 dX9_fault_468 rfl (lv_at hl 1 rfl) ?_
  refine lv_bipush (v := 36) F.1 F.2.1 dX9_fault_469 rfl ?_
  refine lv_icmp_ne (tgt := 478) F.1 F.2.1 dX9_fault_471 (by decide) (fun c1 => ?_) (fun c1 => ?_)
  · have hs := it_f c1 hs
    refine lv_iconst (v := 0) F.1 F.2.1 dX9_fault_478 rfl ?_
    refine lv_icmp_ne (tgt := 487) F.1 F.2.1 dX9_fault_479 (by decide) (fun c2 => ?_) (fun c2 => ?_)
    · have hs := it_f c2 hs
      refine lv_iconst (v := 0) F.1 F.2.1 dX9_fault_487 rfl ?_
      cases hs
      exact x_iret F rfl rfl hP hS dX9_fault_488
    have hs := it_t c2 hs
    refine lv_bipush (v := 9) F.1 F.2.1 dX9_fault_482 rfl ?_
    refine lv_goto (tgt := 488) F.1 F.2.1 dX9_fault_484 (by decide) ?_
    cases hs
    exact x_iret F rfl rfl hP hS dX9_fault_488
  have hs := it_t c1 hs
  refine lv_iconst (v := 1) F.1 F.2.1 dX9_fault_474 rfl ?_
  refine lv_goto (tgt := 479) F.1 F.2.1 dX9_fault_475 (by decide) ?_
  refine lv_icmp_ne (tgt := 487) F.1 F.2.1 dX9_fault_479 (by decide) (fun c3 => ?_) (fun c3 => ?_)
  · have hs := it_f c3 hs
    refine lv_iconst (v := 0) F.1 F.2.1 dX9_fault_487 rfl ?_
    cases hs
    exact x_iret F rfl rfl hP hS dX9_fault_488
  have hs := it_t c3 hs
  refine lv_bipush (v := 9) F.1 F.2.1 dX9_fault_482 rfl ?_
  refine lv_goto (tgt := 488) F.1 F.2.1 dX9_fault_484 (by decide) ?_
  cases hs
  exact x_iret F rfl rfl hP hS dX9_fault_488
set_option maxHeartbeats 4000000 in
set_option maxRecDepth 100000 in
theorem tX9_fault_b580 {G : zG} {A : Nat → Prop} {q : Nat → Nat} (hq : zQD A 21 q) {M : St} {r : Int32} (hs : pX9_fault_b580 M = some r) {p : Program} {l : Launch} {e : Env} {s : State} {m : MethodId} {args : Array Value} {below : List Frame} {meth : Method} {c : Code} {H : Heap} {locs : List Loc} {ls : Array Slot} (F : zFx p s m args meth c cX9_fault RX9 4 (some .int) G A) (hP : (zP G.1 21 q (eM G q) M) H) (hS : va_S A s.heap H locs) (hl : lv_has ls 4 [(0, .ref (q 0))]) : W p l e { frames := 4, cells := 0, slots := 0, locals := 82 } s m args below meth c H locs 0 0 (MQ below (va_Qi (fun (r' : Int32) (_ : Unit) => r' = r) (fun _ U => (zP G.1 21 q (eM G q) M) U.heap) A) args s 0 0 A) (F0 m 580 ls []) := by
  rw [pX9_fault_b580] at hs
  refine lv_iconst (v := 1) F.1 F.2.1 dX9_fault_580 rfl ?_
  refine lv_goto (tgt := 585) F.1 F.2.1 dX9_fault_581 (by decide) ?_
  refine lv_istore_n (lv' := [(2, .int 1), (0, .ref (q 0))]) F.1 F.2.1 dX9_fault_585 rfl hl (by decide) rfl (fun ls hl => ?_)
  refine lv_iload_n F.1 F.2.1 dX9_fault_586 rfl (lv_at hl 0 rfl) ?_
  refine lv_if_eq (tgt := 604) F.1 F.2.1 dX9_fault_587 (by decide) (fun c1 => ?_) (fun c1 => ?_)
  · exact absurd c1 (by decide)
  refine lv_aload_n F.1 F.2.1 dX9_fault_590 rfl (lv_at hl 1 rfl) ?_
  obtain ⟨r1, h1, hs⟩ := bn_some hs
  refine x_callI (rest := []) wv_X9_105 F hS (fun _ h => h) hS.2.1 (tX9_depth l G A q hq h1) hP (x_recv (ci := 7) F hP rfl (by decide) (eM_0 G q _)) rfl hl.1 rfl ⟨Nat.le_of_ble_eq_true rfl, Nat.le_of_ble_eq_true rfl⟩ ⟨Nat.le_refl _, Nat.le_refl _⟩ (Nat.le_of_ble_eq_true rfl) dX9_fault_591 (fun H locs hP hS _ _ => ?_)
  refine lv_bipush (v := 16) F.1 F.2.1 dX9_fault_594 rfl ?_
  refine lv_icmp_ne (tgt := 604) F.1 F.2.1 dX9_fault_596 (by decide) (fun c2 => ?_) (fun c2 => ?_)
  · have hs := it_f c2 hs
    refine lv_iconst (v := 0) F.1 F.2.1 dX9_fault_604 rfl ?_
    cases hs
    exact x_iret F rfl rfl hP hS dX9_fault_605
  have hs := it_t c2 hs
  refine lv_bipush (v := 6) F.1 F.2.1 dX9_fault_599 rfl ?_
  refine lv_goto (tgt := 605) F.1 F.2.1 dX9_fault_601 (by decide) ?_
  cases hs
  exact x_iret F rfl rfl hP hS dX9_fault_605
set_option maxHeartbeats 4000000 in
set_option maxRecDepth 100000 in
theorem tX9_fault (l : Launch) (G : zG) (A : Nat → Prop) (q : Nat → Nat) (hq : zQD A 21 q) {M : St} {r : Int32} (hs : pX9_fault M = some r) : zKI l yX9_fault cX9_fault 4 (some .int) 4 82 G A (zP G.1 21 q (eM G q) M) [.ref (q 0)] r (zP G.1 21 q (eM G q) M) := by
  refine zKI_of (by decide) (Nat.le_of_ble_eq_true rfl) (fun p e s m args below meth c H ls F hH hP hl => ?_)
  have F : zFx p s m args meth c cX9_fault RX9 4 (some .int) G A := F
  have hS : va_S A s.heap H [] := hH ▸ va_S.rf
  have hl : lv_has ls 4 [(0, .ref (q 0))] := hl
  rw [pX9_fault] at hs
  refine lv_aload_n F.1 F.2.1 dX9_fault_0 rfl (lv_at hl 0 rfl) ?_
  obtain ⟨r1, h1, hs⟩ := bn_some hs
  refine x_callI (rest := []) wv_X9_108 F hS (fun _ h => h) hS.2.1 (tX9_here l G A q hq h1) hP (x_recv (ci := 7) F hP rfl (by decide) (eM_0 G q _)) rfl hl.1 rfl ⟨Nat.le_of_ble_eq_true rfl, Nat.le_of_ble_eq_true rfl⟩ ⟨Nat.le_refl _, Nat.le_refl _⟩ (Nat.le_of_ble_eq_true rfl) dX9_fault_1 (fun H locs hP hS _ _ => ?_)
  refine lv_if_lt (tgt := 46) F.1 F.2.1 dX9_fault_4 (by decide) (fun c1 => ?_) (fun c1 => ?_)
  · have hs := it_t c1 hs
    refine lv_bipush (v := 7) F.1 F.2.1 dX9_fault_46 rfl ?_
    cases hs
    exact x_iret F rfl rfl hP hS dX9_fault_48
  have hs := it_f c1 hs
  refine lv_aload_n F.1 F.2.1 dX9_fault_7 rfl (lv_at hl 0 rfl) ?_
  obtain ⟨r2, h2, hs⟩ := bn_some hs
  refine x_callI (rest := []) wv_X9_108 F hS (fun _ h => h) hS.2.1 (tX9_here l G A q hq h2) hP (x_recv (ci := 7) F hP rfl (by decide) (eM_0 G q _)) rfl hl.1 rfl ⟨Nat.le_of_ble_eq_true rfl, Nat.le_of_ble_eq_true rfl⟩ ⟨Nat.le_refl _, Nat.le_refl _⟩ (Nat.le_of_ble_eq_true rfl) dX9_fault_8 (fun H locs hP hS _ _ => ?_)
  refine lv_sipush (v := 512) F.1 F.2.1 dX9_fault_11 rfl ?_
  refine lv_icmp_ge (tgt := 46) F.1 F.2.1 dX9_fault_14 (by decide) (fun c2 => ?_) (fun c2 => ?_)
  · have hs := it_t c2 hs
    refine lv_bipush (v := 7) F.1 F.2.1 dX9_fault_46 rfl ?_
    cases hs
    exact x_iret F rfl rfl hP hS dX9_fault_48
  have hs := it_f c2 hs
  refine lv_aload_n F.1 F.2.1 dX9_fault_17 rfl (lv_at hl 0 rfl) ?_
  refine lv_iconst (v := 0) F.1 F.2.1 dX9_fault_18 rfl ?_
  obtain ⟨r3, h3, hs⟩ := bn_some hs
  refine x_callI (rest := []) wv_X9_111 F hS (fun _ h => h) hS.2.1 (tX9_byteAt l G A q hq h3) hP (x_recv (ci := 7) F hP rfl (by decide) (eM_0 G q _)) rfl hl.1 rfl ⟨Nat.le_of_ble_eq_true rfl, Nat.le_of_ble_eq_true rfl⟩ ⟨Nat.le_refl _, Nat.le_refl _⟩ (Nat.le_of_ble_eq_true rfl) dX9_fault_19 (fun H locs hP hS _ _ => ?_)
  refine lv_bipush (v := 45) F.1 F.2.1 dX9_fault_22 rfl ?_
  refine lv_icmp_gt (tgt := 46) F.1 F.2.1 dX9_fault_24 (by decide) (fun c3 => ?_) (fun c3 => ?_)
  · have hs := it_t c3 hs
    refine lv_bipush (v := 7) F.1 F.2.1 dX9_fault_46 rfl ?_
    cases hs
    exact x_iret F rfl rfl hP hS dX9_fault_48
  have hs := it_f c3 hs
  refine lv_aload_n F.1 F.2.1 dX9_fault_27 rfl (lv_at hl 0 rfl) ?_
  obtain ⟨r4, h4, hs⟩ := bn_some hs
  refine x_callI (rest := []) wv_X9_108 F hS (fun _ h => h) hS.2.1 (tX9_here l G A q hq h4) hP (x_recv (ci := 7) F hP rfl (by decide) (eM_0 G q _)) rfl hl.1 rfl ⟨Nat.le_of_ble_eq_true rfl, Nat.le_of_ble_eq_true rfl⟩ ⟨Nat.le_refl _, Nat.le_refl _⟩ (Nat.le_of_ble_eq_true rfl) dX9_fault_28 (fun H locs hP hS _ _ => ?_)
  refine lv_aload_n F.1 F.2.1 dX9_fault_31 rfl (lv_at hl 0 rfl) ?_
  refine lv_iconst (v := 0) F.1 F.2.1 dX9_fault_32 rfl ?_
  obtain ⟨r5, h5, hs⟩ := bn_some hs
  refine x_callI (rest := [.int r4]) wv_X9_111 F hS (fun _ h => h) hS.2.1 (tX9_byteAt l G A q hq h5) hP (x_recv (ci := 7) F hP rfl (by decide) (eM_0 G q _)) rfl hl.1 rfl ⟨Nat.le_of_ble_eq_true rfl, Nat.le_of_ble_eq_true rfl⟩ ⟨Nat.le_refl _, Nat.le_refl _⟩ (Nat.le_of_ble_eq_true rfl) dX9_fault_33 (fun H locs hP hS _ _ => ?_)
  obtain ⟨r6, h6, hs⟩ := bn_some hs
  refine x_callSI (rest := [.int r4]) wv_X9_115 F hS (fun _ h => h) hS.2.1 (tX9_length l G A (zP G.1 21 q (eM G q) M) h6) hP rfl hl.1 rfl ⟨Nat.le_of_ble_eq_true rfl, Nat.le_of_ble_eq_true rfl⟩ ⟨Nat.le_refl _, Nat.le_refl _⟩ (Nat.le_of_ble_eq_true rfl) dX9_fault_36 (fun H locs hP hS _ _ => ?_)
  refine lv_iadd F.1 F.2.1 dX9_fault_39 ?_
  refine lv_sipush (v := 512) F.1 F.2.1 dX9_fault_40 rfl ?_
  refine lv_icmp_le (tgt := 49) F.1 F.2.1 dX9_fault_43 (by decide) (fun c4 => ?_) (fun c4 => ?_)
  · have hs := it_t c4 hs
    refine lv_aload_n F.1 F.2.1 dX9_fault_49 rfl (lv_at hl 0 rfl) ?_
    refine lv_iconst (v := 0) F.1 F.2.1 dX9_fault_50 rfl ?_
    obtain ⟨r7, h7, hs⟩ := bn_some hs
    refine x_callI (rest := []) wv_X9_111 F hS (fun _ h => h) hS.2.1 (tX9_byteAt l G A q hq h7) hP (x_recv (ci := 7) F hP rfl (by decide) (eM_0 G q _)) rfl hl.1 rfl ⟨Nat.le_of_ble_eq_true rfl, Nat.le_of_ble_eq_true rfl⟩ ⟨Nat.le_refl _, Nat.le_refl _⟩ (Nat.le_of_ble_eq_true rfl) dX9_fault_51 (fun H locs hP hS _ _ => ?_)
    refine lv_istore_n (lv' := [(1, .int r7), (0, .ref (q 0))]) F.1 F.2.1 dX9_fault_54 rfl hl (by decide) rfl (fun ls hl => ?_)
    refine lv_aload_n F.1 F.2.1 dX9_fault_55 rfl (lv_at hl 1 rfl) ?_
    obtain ⟨r8, h8, hs⟩ := bn_some hs
    refine x_callI (rest := []) wv_X9_105 F hS (fun _ h => h) hS.2.1 (tX9_depth l G A q hq h8) hP (x_recv (ci := 7) F hP rfl (by decide) (eM_0 G q _)) rfl hl.1 rfl ⟨Nat.le_of_ble_eq_true rfl, Nat.le_of_ble_eq_true rfl⟩ ⟨Nat.le_refl _, Nat.le_refl _⟩ (Nat.le_of_ble_eq_true rfl) dX9_fault_56 (fun H locs hP hS _ _ => ?_)
    refine lv_aload_n F.1 F.2.1 dX9_fault_59 rfl (lv_at hl 1 rfl) ?_
    refine lv_iload_n F.1 F.2.1 dX9_fault_60 rfl (lv_at hl 0 rfl) ?_
    obtain ⟨r9, h9, hs⟩ := bn_some hs
    refine x_callI (rest := [.int r8]) wv_X9_118 F hS (fun _ h => h) hS.2.1 (tX9_takes l G A q hq h9) hP (x_recv (ci := 7) F hP rfl (by decide) (eM_0 G q _)) rfl hl.1 rfl ⟨Nat.le_of_ble_eq_true rfl, Nat.le_of_ble_eq_true rfl⟩ ⟨Nat.le_refl _, Nat.le_refl _⟩ (Nat.le_of_ble_eq_true rfl) dX9_fault_61 (fun H locs hP hS _ _ => ?_)
    refine lv_icmp_ge (tgt := 70) F.1 F.2.1 dX9_fault_64 (by decide) (fun c5 => ?_) (fun c5 => ?_)
    · have hs := it_t c5 hs
      refine lv_iload_n F.1 F.2.1 dX9_fault_70 rfl (lv_at hl 0 rfl) ?_
      refine lv_bipush (v := 30) F.1 F.2.1 dX9_fault_71 rfl ?_
      refine lv_icmp_eq (tgt := 94) F.1 F.2.1 dX9_fault_73 (by decide) (fun c6 => ?_) (fun c6 => ?_)
      · have hs := it_t c6 hs
        exact tX9_fault_b94 hq hs F hP hS (lv_sub hl [1, 0] rfl)
      have hs := it_f c6 hs
      refine lv_iload_n F.1 F.2.1 dX9_fault_76 rfl (lv_at hl 0 rfl) ?_
      refine lv_bipush (v := 31) F.1 F.2.1 dX9_fault_77 rfl ?_
      refine lv_icmp_eq (tgt := 94) F.1 F.2.1 dX9_fault_79 (by decide) (fun c7 => ?_) (fun c7 => ?_)
      · have hs := it_t c7 hs
        exact tX9_fault_b94 hq hs F hP hS (lv_sub hl [1, 0] rfl)
      have hs := it_f c7 hs
      refine lv_iload_n F.1 F.2.1 dX9_fault_82 rfl (lv_at hl 0 rfl) ?_
      refine lv_bipush (v := 32) F.1 F.2.1 dX9_fault_83 rfl ?_
      refine lv_icmp_eq (tgt := 94) F.1 F.2.1 dX9_fault_85 (by decide) (fun c8 => ?_) (fun c8 => ?_)
      · have hs := it_t c8 hs
        exact tX9_fault_b94 hq hs F hP hS (lv_sub hl [1, 0] rfl)
      have hs := it_f c8 hs
      refine lv_iload_n F.1 F.2.1 dX9_fault_88 rfl (lv_at hl 0 rfl) ?_
      refine lv_bipush (v := 34) F.1 F.2.1 dX9_fault_89 rfl ?_
      refine lv_icmp_ne (tgt := 200) F.1 F.2.1 dX9_fault_91 (by decide) (fun c9 => ?_) (fun c9 => ?_)
      · have hs := it_f c9 hs
        refine lv_iload_n F.1 F.2.1 dX9_fault_200 rfl (lv_at hl 0 rfl) ?_
        refine lv_bipush (v := 35) F.1 F.2.1 dX9_fault_201 rfl ?_
        refine lv_icmp_ne (tgt := 236) F.1 F.2.1 dX9_fault_203 (by decide) (fun c10 => ?_) (fun c10 => ?_)
        · have hs := it_f c10 hs
          refine lv_iload_n F.1 F.2.1 dX9_fault_236 rfl (lv_at hl 0 rfl) ?_
          refine lv_bipush (v := 24) F.1 F.2.1 dX9_fault_237 rfl ?_
          refine lv_icmp_eq (tgt := 248) F.1 F.2.1 dX9_fault_239 (by decide) (fun c11 => ?_) (fun c11 => ?_)
          · have hs := it_t c11 hs
            exact tX9_fault_b248 hq hs F hP hS (lv_sub hl [1, 0] rfl)
          have hs := it_f c11 hs
          refine lv_iload_n F.1 F.2.1 dX9_fault_242 rfl (lv_at hl 0 rfl) ?_
          refine lv_bipush (v := 27) F.1 F.2.1 dX9_fault_243 rfl ?_
          refine lv_icmp_ne (tgt := 320) F.1 F.2.1 dX9_fault_245 (by decide) (fun c12 => ?_) (fun c12 => ?_)
          · have hs := it_f c12 hs
            refine lv_iload_n F.1 F.2.1 dX9_fault_320 rfl (lv_at hl 0 rfl) ?_
            refine lv_bipush (v := 28) F.1 F.2.1 dX9_fault_321 rfl ?_
            refine lv_icmp_eq (tgt := 332) F.1 F.2.1 dX9_fault_323 (by decide) (fun c13 => ?_) (fun c13 => ?_)
            · have hs := it_t c13 hs
              exact tX9_fault_b332 hq hs F hP hS (lv_sub hl [1] rfl)
            have hs := it_f c13 hs
            refine lv_iload_n F.1 F.2.1 dX9_fault_326 rfl (lv_at hl 0 rfl) ?_
            refine lv_bipush (v := 29) F.1 F.2.1 dX9_fault_327 rfl ?_
            refine lv_icmp_ne (tgt := 420) F.1 F.2.1 dX9_fault_329 (by decide) (fun c14 => ?_) (fun c14 => ?_)
            · have hs := it_f c14 hs
              refine lv_iload_n F.1 F.2.1 dX9_fault_420 rfl (lv_at hl 0 rfl) ?_
              refine lv_bipush (v := 9) F.1 F.2.1 dX9_fault_421 rfl ?_
              refine lv_icmp_eq (tgt := 432) F.1 F.2.1 dX9_fault_423 (by decide) (fun c15 => ?_) (fun c15 => ?_)
              · have hs := it_t c15 hs
                refine lv_aload_n F.1 F.2.1 dX9_fault_432 rfl (lv_at hl 1 rfl) ?_
                refine lv_iconst (v := 0) F.1 F.2.1 dX9_fault_433 rfl ?_
                obtain ⟨r10, h10, hs⟩ := bn_some hs
                refine x_callI (rest := []) wv_X9_121 F hS (fun _ h => h) hS.2.1 (tX9_at l G A q hq h10) hP (x_recv (ci := 7) F hP rfl (by decide) (eM_0 G q _)) rfl hl.1 rfl ⟨Nat.le_of_ble_eq_true rfl, Nat.le_of_ble_eq_true rfl⟩ ⟨Nat.le_refl _, Nat.le_refl _⟩ (Nat.le_of_ble_eq_true rfl) dX9_fault_434 (fun H locs hP hS _ _ => ?_)
                refine lv_if_ne (tgt := 444) F.1 F.2.1 dX9_fault_437 (by decide) (fun c16 => ?_) (fun c16 => ?_)
                · have hs := it_f c16 hs
                  refine lv_iconst (v := 0) F.1 F.2.1 dX9_fault_444 rfl ?_
                  cases hs
                  exact x_iret F rfl rfl hP hS dX9_fault_445
                have hs := it_t c16 hs
                refine lv_iconst (v := 1) F.1 F.2.1 dX9_fault_440 rfl ?_
                refine lv_goto (tgt := 445) F.1 F.2.1 dX9_fault_441 (by decide) ?_
                cases hs
                exact x_iret F rfl rfl hP hS dX9_fault_445
              have hs := it_f c15 hs
              refine lv_iload_n F.1 F.2.1 dX9_fault_426 rfl (lv_at hl 0 rfl) ?_
              refine lv_bipush (v := 10) F.1 F.2.1 dX9_fault_427 rfl ?_
              refine lv_icmp_ne (tgt := 446) F.1 F.2.1 dX9_fault_429 (by decide) (fun c17 => ?_) (fun c17 => ?_)
              · have hs := it_f c17 hs
                refine lv_iload_n F.1 F.2.1 dX9_fault_446 rfl (lv_at hl 0 rfl) ?_
                refine lv_bipush (v := 36) F.1 F.2.1 dX9_fault_447 rfl ?_
                refine lv_icmp_eq (tgt := 464) F.1 F.2.1 dX9_fault_449 (by decide) (fun c18 => ?_) (fun c18 => ?_)
                · have hs := it_t c18 hs
                  exact tX9_fault_b464 hq hs F hP hS (lv_sub hl [1, 0] rfl)
                have hs := it_f c18 hs
                refine lv_iload_n F.1 F.2.1 dX9_fault_452 rfl (lv_at hl 0 rfl) ?_
                refine lv_bipush (v := 37) F.1 F.2.1 dX9_fault_453 rfl ?_
                refine lv_icmp_eq (tgt := 464) F.1 F.2.1 dX9_fault_455 (by decide) (fun c19 => ?_) (fun c19 => ?_)
                · have hs := it_t c19 hs
                  exact tX9_fault_b464 hq hs F hP hS (lv_sub hl [1, 0] rfl)
                have hs := it_f c19 hs
                refine lv_iload_n F.1 F.2.1 dX9_fault_458 rfl (lv_at hl 0 rfl) ?_
                refine lv_bipush (v := 38) F.1 F.2.1 dX9_fault_459 rfl ?_
                refine lv_icmp_ne (tgt := 489) F.1 F.2.1 dX9_fault_461 (by decide) (fun c20 => ?_) (fun c20 => ?_)
                · have hs := it_f c20 hs
                  refine lv_iload_n F.1 F.2.1 dX9_fault_489 rfl (lv_at hl 0 rfl) ?_
                  refine lv_bipush (v := 40) F.1 F.2.1 dX9_fault_490 rfl ?_
                  refine lv_icmp_ne (tgt := 519) F.1 F.2.1 dX9_fault_492 (by decide) (fun c21 => ?_) (fun c21 => ?_)
                  · have hs := it_f c21 hs
                    refine lv_iload_n F.1 F.2.1 dX9_fault_519 rfl (lv_at hl 0 rfl) ?_
                    refine lv_bipush (v := 42) F.1 F.2.1 dX9_fault_520 rfl ?_
                    refine lv_icmp_ne (tgt := 541) F.1 F.2.1 dX9_fault_522 (by decide) (fun c22 => ?_) (fun c22 => ?_)
                    · have hs := it_f c22 hs
                      refine lv_iload_n F.1 F.2.1 dX9_fault_541 rfl (lv_at hl 0 rfl) ?_
                      refine lv_iconst (v := 1) F.1 F.2.1 dX9_fault_542 rfl ?_
                      refine lv_icmp_eq (tgt := 580) F.1 F.2.1 dX9_fault_543 (by decide) (fun c23 => ?_) (fun c23 => ?_)
                      · have hs := it_t c23 hs
                        exact tX9_fault_b580 hq hs F hP hS (lv_sub hl [1] rfl)
                      have hs := it_f c23 hs
                      refine lv_iload_n F.1 F.2.1 dX9_fault_546 rfl (lv_at hl 0 rfl) ?_
                      refine lv_iconst (v := 2) F.1 F.2.1 dX9_fault_547 rfl ?_
                      refine lv_icmp_eq (tgt := 580) F.1 F.2.1 dX9_fault_548 (by decide) (fun c24 => ?_) (fun c24 => ?_)
                      · have hs := it_t c24 hs
                        exact tX9_fault_b580 hq hs F hP hS (lv_sub hl [1] rfl)
                      have hs := it_f c24 hs
                      refine lv_iload_n F.1 F.2.1 dX9_fault_551 rfl (lv_at hl 0 rfl) ?_
                      refine lv_iconst (v := 3) F.1 F.2.1 dX9_fault_552 rfl ?_
                      refine lv_icmp_eq (tgt := 580) F.1 F.2.1 dX9_fault_553 (by decide) (fun c25 => ?_) (fun c25 => ?_)
                      · have hs := it_t c25 hs
                        exact tX9_fault_b580 hq hs F hP hS (lv_sub hl [1] rfl)
                      have hs := it_f c25 hs
                      refine lv_iload_n F.1 F.2.1 dX9_fault_556 rfl (lv_at hl 0 rfl) ?_
                      refine lv_bipush (v := 18) F.1 F.2.1 dX9_fault_557 rfl ?_
                      refine lv_icmp_eq (tgt := 580) F.1 F.2.1 dX9_fault_559 (by decide) (fun c26 => ?_) (fun c26 => ?_)
                      · have hs := it_t c26 hs
                        exact tX9_fault_b580 hq hs F hP hS (lv_sub hl [1] rfl)
                      have hs := it_f c26 hs
                      refine lv_iload_n F.1 F.2.1 dX9_fault_562 rfl (lv_at hl 0 rfl) ?_
                      refine lv_bipush (v := 33) F.1 F.2.1 dX9_fault_563 rfl ?_
                      refine lv_icmp_eq (tgt := 580) F.1 F.2.1 dX9_fault_565 (by decide) (fun c27 => ?_) (fun c27 => ?_)
                      · have hs := it_t c27 hs
                        exact tX9_fault_b580 hq hs F hP hS (lv_sub hl [1] rfl)
                      have hs := it_f c27 hs
                      refine lv_iload_n F.1 F.2.1 dX9_fault_568 rfl (lv_at hl 0 rfl) ?_
                      refine lv_bipush (v := 39) F.1 F.2.1 dX9_fault_569 rfl ?_
                      refine lv_icmp_eq (tgt := 580) F.1 F.2.1 dX9_fault_571 (by decide) (fun c28 => ?_) (fun c28 => ?_)
                      · have hs := it_t c28 hs
                        exact tX9_fault_b580 hq hs F hP hS (lv_sub hl [1] rfl)
                      have hs := it_f c28 hs
                      refine lv_iload_n F.1 F.2.1 dX9_fault_574 rfl (lv_at hl 0 rfl) ?_
                      refine lv_bipush (v := 41) F.1 F.2.1 dX9_fault_575 rfl ?_
                      refine lv_icmp_ne (tgt := 584) F.1 F.2.1 dX9_fault_577 (by decide) (fun c29 => ?_) (fun c29 => ?_)
                      · have hs := it_f c29 hs
                        refine lv_iconst (v := 0) F.1 F.2.1 dX9_fault_584 rfl ?_
                        refine lv_istore_n (lv' := [(2, .int 0), (1, .int r7), (0, .ref (q 0))]) F.1 F.2.1 dX9_fault_585 rfl hl (by decide) rfl (fun ls hl => ?_)
                        refine lv_iload_n F.1 F.2.1 dX9_fault_586 rfl (lv_at hl 0 rfl) ?_
                        refine lv_if_eq (tgt := 604) F.1 F.2.1 dX9_fault_587 (by decide) (fun c30 => ?_) (fun c30 => ?_)
                        · refine lv_iconst (v := 0) F.1 F.2.1 dX9_fault_604 rfl ?_
                          cases hs
                          exact x_iret F rfl rfl hP hS dX9_fault_605
                        exact absurd c30 (by decide)
                      have hs := it_t c29 hs
                      exact tX9_fault_b580 hq hs F hP hS (lv_sub hl [1] rfl)
                    have hs := it_t c22 hs
                    refine lv_aload_n F.1 F.2.1 dX9_fault_525 rfl (lv_at hl 1 rfl) ?_
                    refine gM_X9_141 F hP dX9_fault_526 ?_
                    refine lv_bipush (v := 32) F.1 F.2.1 dX9_fault_529 rfl ?_
                    refine lv_icmp_ne (tgt := 539) F.1 F.2.1 dX9_fault_531 (by decide) (fun c31 => ?_) (fun c31 => ?_)
                    · have hs := it_f c31 hs
                      refine lv_iconst (v := 0) F.1 F.2.1 dX9_fault_539 rfl ?_
                      cases hs
                      exact x_iret F rfl rfl hP hS dX9_fault_540
                    have hs := it_t c31 hs
                    refine lv_bipush (v := 6) F.1 F.2.1 dX9_fault_534 rfl ?_
                    refine lv_goto (tgt := 540) F.1 F.2.1 dX9_fault_536 (by decide) ?_
                    cases hs
                    exact x_iret F rfl rfl hP hS dX9_fault_540
                  have hs := it_t c21 hs
                  refine lv_aload_n F.1 F.2.1 dX9_fault_495 rfl (lv_at hl 1 rfl) ?_
                  refine lv_iconst (v := 0) F.1 F.2.1 dX9_fault_496 rfl ?_
                  obtain ⟨r11, h11, hs⟩ := bn_some hs
                  refine x_callI (rest := []) wv_X9_121 F hS (fun _ h => h) hS.2.1 (tX9_at l G A q hq h11) hP (x_recv (ci := 7) F hP rfl (by decide) (eM_0 G q _)) rfl hl.1 rfl ⟨Nat.le_of_ble_eq_true rfl, Nat.le_of_ble_eq_true rfl⟩ ⟨Nat.le_refl _, Nat.le_refl _⟩ (Nat.le_of_ble_eq_true rfl) dX9_fault_497 (fun H locs hP hS _ _ => ?_)
                  refine lv_iconst (v := 0) F.1 F.2.1 dX9_fault_500 rfl ?_
                  refine lv_aload_n F.1 F.2.1 dX9_fault_501 rfl (lv_at hl 1 rfl) ?_
                  refine gM_X9_95 F hP dX9_fault_502 ?_
                  refine lv_iconst (v := 1) F.1 F.2.1 dX9_fault_505 rfl ?_
                  refine lv_isub F.1 F.2.1 dX9_fault_506 ?_
                  obtain ⟨r12, h12, hs⟩ := bn_some hs
                  refine x_callSI (rest := []) wv_X9_89 F hS (fun _ h => h) hS.2.1 (tX9_isIn l G A (zP G.1 21 q (eM G q) M) h12) hP rfl hl.1 rfl ⟨Nat.le_of_ble_eq_true rfl, Nat.le_of_ble_eq_true rfl⟩ ⟨Nat.le_refl _, Nat.le_refl _⟩ (Nat.le_of_ble_eq_true rfl) dX9_fault_507 (fun H locs hP hS _ _ => ?_)
                  refine lv_if_eq (tgt := 517) F.1 F.2.1 dX9_fault_510 (by decide) (fun c32 => ?_) (fun c32 => ?_)
                  · have hs := it_t c32 hs
                    refine lv_iconst (v := 3) F.1 F.2.1 dX9_fault_517 rfl ?_
                    cases hs
                    exact x_iret F rfl rfl hP hS dX9_fault_518
                  have hs := it_f c32 hs
                  refine lv_iconst (v := 0) F.1 F.2.1 dX9_fault_513 rfl ?_
                  refine lv_goto (tgt := 518) F.1 F.2.1 dX9_fault_514 (by decide) ?_
                  cases hs
                  exact x_iret F rfl rfl hP hS dX9_fault_518
                have hs := it_t c20 hs
                exact tX9_fault_b464 hq hs F hP hS (lv_sub hl [1, 0] rfl)
              have hs := it_t c17 hs
              refine lv_aload_n F.1 F.2.1 dX9_fault_432 rfl (lv_at hl 1 rfl) ?_
              refine lv_iconst (v := 0) F.1 F.2.1 dX9_fault_433 rfl ?_
              obtain ⟨r13, h13, hs⟩ := bn_some hs
              refine x_callI (rest := []) wv_X9_121 F hS (fun _ h => h) hS.2.1 (tX9_at l G A q hq h13) hP (x_recv (ci := 7) F hP rfl (by decide) (eM_0 G q _)) rfl hl.1 rfl ⟨Nat.le_of_ble_eq_true rfl, Nat.le_of_ble_eq_true rfl⟩ ⟨Nat.le_refl _, Nat.le_refl _⟩ (Nat.le_of_ble_eq_true rfl) dX9_fault_434 (fun H locs hP hS _ _ => ?_)
              refine lv_if_ne (tgt := 444) F.1 F.2.1 dX9_fault_437 (by decide) (fun c33 => ?_) (fun c33 => ?_)
              · have hs := it_f c33 hs
                refine lv_iconst (v := 0) F.1 F.2.1 dX9_fault_444 rfl ?_
                cases hs
                exact x_iret F rfl rfl hP hS dX9_fault_445
              have hs := it_t c33 hs
              refine lv_iconst (v := 1) F.1 F.2.1 dX9_fault_440 rfl ?_
              refine lv_goto (tgt := 445) F.1 F.2.1 dX9_fault_441 (by decide) ?_
              cases hs
              exact x_iret F rfl rfl hP hS dX9_fault_445
            have hs := it_t c14 hs
            exact tX9_fault_b332 hq hs F hP hS (lv_sub hl [1] rfl)
          have hs := it_t c12 hs
          exact tX9_fault_b248 hq hs F hP hS (lv_sub hl [1, 0] rfl)
        have hs := it_t c10 hs
        refine lv_aload_n F.1 F.2.1 dX9_fault_206 rfl (lv_at hl 1 rfl) ?_
        refine lv_aload_n F.1 F.2.1 dX9_fault_207 rfl (lv_at hl 1 rfl) ?_
        refine lv_iconst (v := 4) F.1 F.2.1 dX9_fault_208 rfl ?_
        obtain ⟨r14, h14, hs⟩ := bn_some hs
        refine x_callI (rest := [.ref (q 0)]) wv_X9_121 F hS (fun _ h => h) hS.2.1 (tX9_at l G A q hq h14) hP (x_recv (ci := 7) F hP rfl (by decide) (eM_0 G q _)) rfl hl.1 rfl ⟨Nat.le_of_ble_eq_true rfl, Nat.le_of_ble_eq_true rfl⟩ ⟨Nat.le_refl _, Nat.le_refl _⟩ (Nat.le_of_ble_eq_true rfl) dX9_fault_209 (fun H locs hP hS _ _ => ?_)
        refine lv_aload_n F.1 F.2.1 dX9_fault_212 rfl (lv_at hl 1 rfl) ?_
        refine lv_iconst (v := 3) F.1 F.2.1 dX9_fault_213 rfl ?_
        obtain ⟨r15, h15, hs⟩ := bn_some hs
        refine x_callI (rest := [.int r14, .ref (q 0)]) wv_X9_121 F hS (fun _ h => h) hS.2.1 (tX9_at l G A q hq h15) hP (x_recv (ci := 7) F hP rfl (by decide) (eM_0 G q _)) rfl hl.1 rfl ⟨Nat.le_of_ble_eq_true rfl, Nat.le_of_ble_eq_true rfl⟩ ⟨Nat.le_refl _, Nat.le_refl _⟩ (Nat.le_of_ble_eq_true rfl) dX9_fault_214 (fun H locs hP hS _ _ => ?_)
        refine lv_aload_n F.1 F.2.1 dX9_fault_217 rfl (lv_at hl 1 rfl) ?_
        refine lv_iconst (v := 2) F.1 F.2.1 dX9_fault_218 rfl ?_
        obtain ⟨r16, h16, hs⟩ := bn_some hs
        refine x_callI (rest := [.int r15, .int r14, .ref (q 0)]) wv_X9_121 F hS (fun _ h => h) hS.2.1 (tX9_at l G A q hq h16) hP (x_recv (ci := 7) F hP rfl (by decide) (eM_0 G q _)) rfl hl.1 rfl ⟨Nat.le_of_ble_eq_true rfl, Nat.le_of_ble_eq_true rfl⟩ ⟨Nat.le_refl _, Nat.le_refl _⟩ (Nat.le_of_ble_eq_true rfl) dX9_fault_219 (fun H locs hP hS _ _ => ?_)
        refine lv_aload_n F.1 F.2.1 dX9_fault_222 rfl (lv_at hl 1 rfl) ?_
        refine lv_iconst (v := 1) F.1 F.2.1 dX9_fault_223 rfl ?_
        obtain ⟨r17, h17, hs⟩ := bn_some hs
        refine x_callI (rest := [.int r16, .int r15, .int r14, .ref (q 0)]) wv_X9_121 F hS (fun _ h => h) hS.2.1 (tX9_at l G A q hq h17) hP (x_recv (ci := 7) F hP rfl (by decide) (eM_0 G q _)) rfl hl.1 rfl ⟨Nat.le_of_ble_eq_true rfl, Nat.le_of_ble_eq_true rfl⟩ ⟨Nat.le_refl _, Nat.le_refl _⟩ (Nat.le_of_ble_eq_true rfl) dX9_fault_224 (fun H locs hP hS _ _ => ?_)
        refine lv_aload_n F.1 F.2.1 dX9_fault_227 rfl (lv_at hl 1 rfl) ?_
        refine lv_iconst (v := 0) F.1 F.2.1 dX9_fault_228 rfl ?_
        obtain ⟨r18, h18, hs⟩ := bn_some hs
        refine x_callI (rest := [.int r17, .int r16, .int r15, .int r14, .ref (q 0)]) wv_X9_121 F hS (fun _ h => h) hS.2.1 (tX9_at l G A q hq h18) hP (x_recv (ci := 7) F hP rfl (by decide) (eM_0 G q _)) rfl hl.1 rfl ⟨Nat.le_of_ble_eq_true rfl, Nat.le_of_ble_eq_true rfl⟩ ⟨Nat.le_refl _, Nat.le_refl _⟩ (Nat.le_of_ble_eq_true rfl) dX9_fault_229 (fun H locs hP hS _ _ => ?_)
        obtain ⟨r19, h19, hs⟩ := bn_some hs
        refine x_callI (rest := []) wv_X9_137 F hS (fun _ h => h) hS.2.1 (tX9_copyFault l G A q hq h19) hP (x_recv (ci := 7) F hP rfl (by decide) (eM_0 G q _)) rfl hl.1 rfl ⟨Nat.le_of_ble_eq_true rfl, Nat.le_of_ble_eq_true rfl⟩ ⟨Nat.le_refl _, Nat.le_refl _⟩ (Nat.le_of_ble_eq_true rfl) dX9_fault_232 (fun H locs hP hS _ _ => ?_)
        cases hs
        exact x_iret F rfl rfl hP hS dX9_fault_235
      have hs := it_t c9 hs
      exact tX9_fault_b94 hq hs F hP hS (lv_sub hl [1, 0] rfl)
    have hs := it_f c5 hs
    refine lv_bipush (v := 6) F.1 F.2.1 dX9_fault_67 rfl ?_
    cases hs
    exact x_iret F rfl rfl hP hS dX9_fault_69
  have hs := it_f c4 hs
  refine lv_bipush (v := 7) F.1 F.2.1 dX9_fault_46 rfl ?_
  cases hs
  exact x_iret F rfl rfl hP hS dX9_fault_48

def pX9_writes (M : St) : Option (Int32 × St) :=
  if M 0 12 = 0 then
    lt (up2 M 0 12 ((-1))) fun M3 =>
    lt (up2 M3 0 11 0) fun M4 =>
    some (0, M4)
  else
    if M 0 12 ≤ 0 then
      lt (up2 M 0 12 (M 0 12)) fun M1 =>
      some (1, M1)
    else
      lt (up2 M 0 12 ((M 0 12) - 1)) fun M2 =>
      some (1, M2)
set_option maxHeartbeats 4000000 in
set_option maxRecDepth 100000 in
theorem tX9_writes (l : Launch) (G : zG) (A : Nat → Prop) (q : Nat → Nat) (hq : zQD A 21 q) {M M' : St} {r : Int32} (hs : pX9_writes M = some (r, M')) : zKI l yX9_writes cX9_writes 1 (some .boolean) 0 0 G A (zP G.1 21 q (eM G q) M) [.ref (q 0)] r (zP G.1 21 q (eM G q) M') := by
  refine zKI_of (by decide) (Nat.le_of_ble_eq_true rfl) (fun p e s m args below meth c H ls F hH hP hl => ?_)
  have F : zFx p s m args meth c cX9_writes RX9 1 (some .boolean) G A := F
  have hS : va_S A s.heap H [] := hH ▸ va_S.rf
  have hl : lv_has ls 1 [(0, .ref (q 0))] := hl
  rw [pX9_writes] at hs
  refine lv_aload_n F.1 F.2.1 dX9_writes_0 rfl (lv_at hl 0 rfl) ?_
  refine gM_X9_42 F hP dX9_writes_1 ?_
  refine lv_if_ne (tgt := 19) F.1 F.2.1 dX9_writes_4 (by decide) (fun c1 => ?_) (fun c1 => ?_)
  · have hs := it_f c1 hs
    refine lv_aload_n F.1 F.2.1 dX9_writes_19 rfl (lv_at hl 0 rfl) ?_
    refine lv_aload_n F.1 F.2.1 dX9_writes_20 rfl (lv_at hl 0 rfl) ?_
    refine gM_X9_42 F hP dX9_writes_21 ?_
    refine lv_if_le (tgt := 36) F.1 F.2.1 dX9_writes_24 (by decide) (fun c2 => ?_) (fun c2 => ?_)
    · have hs := it_t c2 hs
      refine lv_aload_n F.1 F.2.1 dX9_writes_36 rfl (lv_at hl 0 rfl) ?_
      refine gM_X9_42 F hP dX9_writes_37 ?_
      obtain ⟨M1, eM1, hs⟩ := lt_some hs
      refine hM_X9_42 F hq hP hS eM1 dX9_writes_40 (fun H locs hP hS => ?_)
      refine lv_iconst (v := 1) F.1 F.2.1 dX9_writes_43 rfl ?_
      cases hs
      exact x_iret F rfl rfl hP hS dX9_writes_44
    have hs := it_f c2 hs
    refine lv_aload_n F.1 F.2.1 dX9_writes_27 rfl (lv_at hl 0 rfl) ?_
    refine gM_X9_42 F hP dX9_writes_28 ?_
    refine lv_iconst (v := 1) F.1 F.2.1 dX9_writes_31 rfl ?_
    refine lv_isub F.1 F.2.1 dX9_writes_32 ?_
    refine lv_goto (tgt := 40) F.1 F.2.1 dX9_writes_33 (by decide) ?_
    obtain ⟨M2, eM2, hs⟩ := lt_some hs
    refine hM_X9_42 F hq hP hS eM2 dX9_writes_40 (fun H locs hP hS => ?_)
    refine lv_iconst (v := 1) F.1 F.2.1 dX9_writes_43 rfl ?_
    cases hs
    exact x_iret F rfl rfl hP hS dX9_writes_44
  have hs := it_t c1 hs
  refine lv_aload_n F.1 F.2.1 dX9_writes_7 rfl (lv_at hl 0 rfl) ?_
  refine lv_iconst (v := (-1)) F.1 F.2.1 dX9_writes_8 rfl ?_
  obtain ⟨M3, eM3, hs⟩ := lt_some hs
  refine hM_X9_42 F hq hP hS eM3 dX9_writes_9 (fun H locs hP hS => ?_)
  refine lv_aload_n F.1 F.2.1 dX9_writes_12 rfl (lv_at hl 0 rfl) ?_
  refine lv_iconst (v := 0) F.1 F.2.1 dX9_writes_13 rfl ?_
  obtain ⟨M4, eM4, hs⟩ := lt_some hs
  refine hM_X9_38 rfl F hq hP hS eM4 dX9_writes_14 (fun H locs hP hS => ?_)
  refine lv_iconst (v := 0) F.1 F.2.1 dX9_writes_17 rfl ?_
  cases hs
  exact x_iret F rfl rfl hP hS dX9_writes_18

def pX9_undoAll_b7 : Nat → St → Int32 → Option St
  | 0, _, _ => none
  | n + 1, M, x1 =>
    if x1 < 0 then
      lt (up2 M 0 4 (M 0 18)) fun M1 =>
      lt (up2 M1 0 10 (M1 0 19)) fun M2 =>
      lt (up2 M2 0 13 0) fun M3 =>
      some M3
    else
      gd (inb x1 20) <|
      gd (inb x1 20) <|
      gd (inb (M 10 (ix x1)) 240) <|
      lt (up2 M 9 (ix (M 10 (ix x1))) (M 11 (ix x1))) fun M4 =>
      pX9_undoAll_b7 n M4 (x1 + (-1))
def pX9_undoAll (M : St) : Option St :=
  pX9_undoAll_b7 LF M ((M 0 15) - 1)
set_option maxHeartbeats 4000000 in
set_option maxRecDepth 100000 in
theorem tX9_undoAll_b7 (n : Nat) {G : zG} {A : Nat → Prop} {q : Nat → Nat} (hq : zQD A 21 q) {M' : St} : ∀ {M : St} {x1 : Int32} (hs : pX9_undoAll_b7 n M x1 = some M') {p : Program} {l : Launch} {e : Env} {s : State} {m : MethodId} {args : Array Value} {below : List Frame} {meth : Method} {c : Code} {H : Heap} {locs : List Loc} {ls : Array Slot} (F : zFx p s m args meth c cX9_undoAll RX9 2 none G A) (hP : (zP G.1 21 q (eM G q) M) H) (hS : va_S A s.heap H locs) (hl : lv_has ls 2 [(0, .ref (q 0)), (1, .int x1)]), W p l e { frames := 0, cells := 0, slots := 0, locals := 0 } s m args below meth c H locs 0 0 (MQ below (va_Qv (fun (_ : Unit) => True) (fun _ U => (zP G.1 21 q (eM G q) M') U.heap) A) args s 0 0 A) (F0 m 7 ls []) := by
  induction n with
  | zero =>
    intro M x1 hs p l e s m args below meth c H locs ls F hP hS hl
    rw [pX9_undoAll_b7] at hs
    cases hs
  | succ n ih =>
    intro M x1 hs p l e s m args below meth c H locs ls F hP hS hl
    rw [pX9_undoAll_b7] at hs
    refine lv_iload_n F.1 F.2.1 dX9_undoAll_7 rfl (lv_at hl 1 rfl) ?_
    refine lv_if_lt (tgt := 34) F.1 F.2.1 dX9_undoAll_8 (by decide) (fun c1 => ?_) (fun c1 => ?_)
    · have hs := it_t c1 hs
      refine lv_aload_n F.1 F.2.1 dX9_undoAll_34 rfl (lv_at hl 0 rfl) ?_
      refine lv_aload_n F.1 F.2.1 dX9_undoAll_35 rfl (lv_at hl 0 rfl) ?_
      refine gM_X9_147 F hP dX9_undoAll_36 ?_
      obtain ⟨M1, eM1, hs⟩ := lt_some hs
      refine hM_X9_83 F hq hP hS eM1 dX9_undoAll_39 (fun H locs hP hS => ?_)
      refine lv_aload_n F.1 F.2.1 dX9_undoAll_42 rfl (lv_at hl 0 rfl) ?_
      refine lv_aload_n F.1 F.2.1 dX9_undoAll_43 rfl (lv_at hl 0 rfl) ?_
      refine gM_X9_150 F hP dX9_undoAll_44 ?_
      obtain ⟨M2, eM2, hs⟩ := lt_some hs
      refine hM_X9_86 F hq hP hS eM2 dX9_undoAll_47 (fun H locs hP hS => ?_)
      refine lv_aload_n F.1 F.2.1 dX9_undoAll_50 rfl (lv_at hl 0 rfl) ?_
      refine lv_iconst (v := 0) F.1 F.2.1 dX9_undoAll_51 rfl ?_
      obtain ⟨M3, eM3, hs⟩ := lt_some hs
      refine hM_X9_131 rfl F hq hP hS eM3 dX9_undoAll_52 (fun H locs hP hS => ?_)
      cases hs
      exact x_vret F hP hS dX9_undoAll_55
    have hs := it_f c1 hs
    refine lv_aload_n F.1 F.2.1 dX9_undoAll_11 rfl (lv_at hl 0 rfl) ?_
    refine gM_X9_35 F hP dX9_undoAll_12 ?_
    refine lv_aload_n F.1 F.2.1 dX9_undoAll_15 rfl (lv_at hl 0 rfl) ?_
    refine gM_X9_46 F hP dX9_undoAll_16 ?_
    refine lv_iload_n F.1 F.2.1 dX9_undoAll_19 rfl (lv_at hl 1 rfl) ?_
    obtain ⟨g1, hs⟩ := gd_some hs
    refine x_iald F hP (arM_10 G q) g1 dX9_undoAll_20 ?_
    refine lv_aload_n F.1 F.2.1 dX9_undoAll_21 rfl (lv_at hl 0 rfl) ?_
    refine gM_X9_49 F hP dX9_undoAll_22 ?_
    refine lv_iload_n F.1 F.2.1 dX9_undoAll_25 rfl (lv_at hl 1 rfl) ?_
    obtain ⟨g2, hs⟩ := gd_some hs
    refine x_iald F hP (arM_11 G q) g2 dX9_undoAll_26 ?_
    obtain ⟨g3, hs⟩ := gd_some hs
    obtain ⟨M4, eM4, hs⟩ := lt_some hs
    refine x_iast F hq hP hS (arM_9 G q) g3 eM4 dX9_undoAll_27 (fun H locs hP hS => ?_)
    refine lv_iinc (v := x1 + (-1)) (lv' := [(1, .int (x1 + (-1))), (0, .ref (q 0))]) F.1 F.2.1 dX9_undoAll_28 hl (k := 1) rfl rfl (by decide) rfl (fun ls hl => ?_)
    refine lv_goto (tgt := 7) F.1 F.2.1 dX9_undoAll_31 (by decide) ?_
    exact ih hs F hP hS (lv_sub hl [1, 0] rfl)
set_option maxHeartbeats 4000000 in
set_option maxRecDepth 100000 in
theorem tX9_undoAll (l : Launch) (G : zG) (A : Nat → Prop) (q : Nat → Nat) (hq : zQD A 21 q) {M M' : St} (hs : pX9_undoAll M = some M') : zKV l yX9_undoAll cX9_undoAll 2 0 0 G A (zP G.1 21 q (eM G q) M) [.ref (q 0)] (zP G.1 21 q (eM G q) M') := by
  refine zKV_of (by decide) (Nat.le_of_ble_eq_true rfl) (fun p e s m args below meth c H ls F hH hP hl => ?_)
  have F : zFx p s m args meth c cX9_undoAll RX9 2 none G A := F
  have hS : va_S A s.heap H [] := hH ▸ va_S.rf
  have hl : lv_has ls 2 [(0, .ref (q 0))] := hl
  rw [pX9_undoAll] at hs
  refine lv_aload_n F.1 F.2.1 dX9_undoAll_0 rfl (lv_at hl 0 rfl) ?_
  refine gM_X9_144 F hP dX9_undoAll_1 ?_
  refine lv_iconst (v := 1) F.1 F.2.1 dX9_undoAll_4 rfl ?_
  refine lv_isub F.1 F.2.1 dX9_undoAll_5 ?_
  refine lv_istore_n (lv' := [(1, .int ((M 0 15) - 1)), (0, .ref (q 0))]) F.1 F.2.1 dX9_undoAll_6 rfl hl (by decide) rfl (fun ls hl => ?_)
  exact tX9_undoAll_b7 LF hq hs F hP hS (lv_sub hl [1, 0] rfl)

def pX9_throwIt_b0 : Nat → St → Int32 → Option St
  | 0, _, _ => none
  | n + 1, M, x1 =>
    if M 0 24 ≤ 0 then
      lt (up2 M 0 35 20) fun M1 =>
      lt (up2 M1 0 33 (x1.toInt16.toInt32)) fun M2 =>
      some M2
    else
      bn (pX9_top M) fun r1 =>
      gd (inb r1 8) <|
      if M 16 (ix r1) = (-1) then
        lt (up2 M 0 24 ((M 0 24) - 1)) fun M3 =>
        pX9_throwIt_b0 n M3 x1
      else
        bn (pX9_top M) fun r2 =>
        gd (inb r2 8) <|
        lt (up2 M 19 (ix r2) 0) fun M4 =>
        bn (pX9_put M4 x1) fun M5 =>
        bn (pX9_top M5) fun r3 =>
        bn (pX9_top M5) fun r4 =>
        gd (inb r4 8) <|
        gd (inb r3 8) <|
        lt (up2 M5 15 (ix r3) (M5 20 (ix r4))) fun M6 =>
        bn (pX9_top M6) fun r5 =>
        gd (inb r5 8) <|
        lt (up2 M6 16 (ix r5) ((-1))) fun M7 =>
        some M7
def pX9_throwIt (M : St) (x1 : Int32) : Option St :=
  if M 0 24 ≤ 0 then
    lt (up2 M 0 35 20) fun M1 =>
    lt (up2 M1 0 33 (x1.toInt16.toInt32)) fun M2 =>
    some M2
  else
    bn (pX9_top M) fun r1 =>
    gd (inb r1 8) <|
    if M 16 (ix r1) = (-1) then
      lt (up2 M 0 24 ((M 0 24) - 1)) fun M3 =>
      pX9_throwIt_b0 LF M3 x1
    else
      bn (pX9_top M) fun r2 =>
      gd (inb r2 8) <|
      lt (up2 M 19 (ix r2) 0) fun M4 =>
      bn (pX9_put M4 x1) fun M5 =>
      bn (pX9_top M5) fun r3 =>
      bn (pX9_top M5) fun r4 =>
      gd (inb r4 8) <|
      gd (inb r3 8) <|
      lt (up2 M5 15 (ix r3) (M5 20 (ix r4))) fun M6 =>
      bn (pX9_top M6) fun r5 =>
      gd (inb r5 8) <|
      lt (up2 M6 16 (ix r5) ((-1))) fun M7 =>
      some M7
set_option maxHeartbeats 4000000 in
set_option maxRecDepth 100000 in
theorem tX9_throwIt_b0 (n : Nat) {G : zG} {A : Nat → Prop} {q : Nat → Nat} (hq : zQD A 21 q) {M' : St} : ∀ {M : St} {x1 : Int32} (hs : pX9_throwIt_b0 n M x1 = some M') {p : Program} {l : Launch} {e : Env} {s : State} {m : MethodId} {args : Array Value} {below : List Frame} {meth : Method} {c : Code} {H : Heap} {locs : List Loc} {ls : Array Slot} (F : zFx p s m args meth c cX9_throwIt RX9 2 none G A) (hP : (zP G.1 21 q (eM G q) M) H) (hS : va_S A s.heap H locs) (hl : lv_has ls 2 [(0, .ref (q 0)), (1, .int x1)]), W p l e { frames := 3, cells := 0, slots := 0, locals := 61 } s m args below meth c H locs 0 0 (MQ below (va_Qv (fun (_ : Unit) => True) (fun _ U => (zP G.1 21 q (eM G q) M') U.heap) A) args s 0 0 A) (F0 m 0 ls []) := by
  induction n with
  | zero =>
    intro M x1 hs p l e s m args below meth c H locs ls F hP hS hl
    rw [pX9_throwIt_b0] at hs
    cases hs
  | succ n ih =>
    intro M x1 hs p l e s m args below meth c H locs ls F hP hS hl
    rw [pX9_throwIt_b0] at hs
    refine lv_aload_n F.1 F.2.1 dX9_throwIt_0 rfl (lv_at hl 0 rfl) ?_
    refine gM_X9_98 F hP dX9_throwIt_1 ?_
    refine lv_if_le (tgt := 77) F.1 F.2.1 dX9_throwIt_4 (by decide) (fun c1 => ?_) (fun c1 => ?_)
    · have hs := it_t c1 hs
      refine lv_aload_n F.1 F.2.1 dX9_throwIt_77 rfl (lv_at hl 0 rfl) ?_
      refine lv_bipush (v := 20) F.1 F.2.1 dX9_throwIt_78 rfl ?_
      obtain ⟨M1, eM1, hs⟩ := lt_some hs
      refine hM_X9_157 F hq hP hS eM1 dX9_throwIt_80 (fun H locs hP hS => ?_)
      refine lv_aload_n F.1 F.2.1 dX9_throwIt_83 rfl (lv_at hl 0 rfl) ?_
      refine lv_iload_n F.1 F.2.1 dX9_throwIt_84 rfl (lv_at hl 1 rfl) ?_
      refine lv_i2s F.1 F.2.1 dX9_throwIt_85 rfl ?_
      obtain ⟨M2, eM2, hs⟩ := lt_some hs
      refine hM_X9_160 F hq hP hS eM2 dX9_throwIt_86 (fun H locs hP hS => ?_)
      cases hs
      exact x_vret F hP hS dX9_throwIt_89
    have hs := it_f c1 hs
    refine lv_aload_n F.1 F.2.1 dX9_throwIt_7 rfl (lv_at hl 0 rfl) ?_
    refine gM_X9_64 F hP dX9_throwIt_8 ?_
    refine lv_aload_n F.1 F.2.1 dX9_throwIt_11 rfl (lv_at hl 0 rfl) ?_
    obtain ⟨r1, h1, hs⟩ := bn_some hs
    refine x_callI (rest := [.ref (q 16)]) wv_X9_101 F hS (fun _ h => h) hS.2.1 (tX9_top l G A q hq h1) hP (x_recv (ci := 7) F hP rfl (by decide) (eM_0 G q _)) rfl hl.1 rfl ⟨Nat.le_of_ble_eq_true rfl, Nat.le_of_ble_eq_true rfl⟩ ⟨Nat.le_refl _, Nat.le_refl _⟩ (Nat.le_of_ble_eq_true rfl) dX9_throwIt_12 (fun H locs hP hS _ _ => ?_)
    obtain ⟨g1, hs⟩ := gd_some hs
    refine x_iald F hP (arM_16 G q) g1 dX9_throwIt_15 ?_
    refine lv_iconst (v := (-1)) F.1 F.2.1 dX9_throwIt_16 rfl ?_
    refine lv_icmp_eq (tgt := 64) F.1 F.2.1 dX9_throwIt_17 (by decide) (fun c2 => ?_) (fun c2 => ?_)
    · have hs := it_t c2 hs
      refine lv_aload_n F.1 F.2.1 dX9_throwIt_64 rfl (lv_at hl 0 rfl) ?_
      refine lv_dup F.1 F.2.1 dX9_throwIt_65 rfl ?_
      refine gM_X9_98 F hP dX9_throwIt_66 ?_
      refine lv_iconst (v := 1) F.1 F.2.1 dX9_throwIt_69 rfl ?_
      refine lv_isub F.1 F.2.1 dX9_throwIt_70 ?_
      obtain ⟨M3, eM3, hs⟩ := lt_some hs
      refine hM_X9_98 F hq hP hS eM3 dX9_throwIt_71 (fun H locs hP hS => ?_)
      refine lv_goto (tgt := 0) F.1 F.2.1 dX9_throwIt_74 (by decide) ?_
      exact ih hs F hP hS (lv_sub hl [0, 1] rfl)
    have hs := it_f c2 hs
    refine lv_aload_n F.1 F.2.1 dX9_throwIt_20 rfl (lv_at hl 0 rfl) ?_
    refine gM_X9_73 F hP dX9_throwIt_21 ?_
    refine lv_aload_n F.1 F.2.1 dX9_throwIt_24 rfl (lv_at hl 0 rfl) ?_
    obtain ⟨r2, h2, hs⟩ := bn_some hs
    refine x_callI (rest := [.ref (q 19)]) wv_X9_101 F hS (fun _ h => h) hS.2.1 (tX9_top l G A q hq h2) hP (x_recv (ci := 7) F hP rfl (by decide) (eM_0 G q _)) rfl hl.1 rfl ⟨Nat.le_of_ble_eq_true rfl, Nat.le_of_ble_eq_true rfl⟩ ⟨Nat.le_refl _, Nat.le_refl _⟩ (Nat.le_of_ble_eq_true rfl) dX9_throwIt_25 (fun H locs hP hS _ _ => ?_)
    refine lv_iconst (v := 0) F.1 F.2.1 dX9_throwIt_28 rfl ?_
    obtain ⟨g2, hs⟩ := gd_some hs
    obtain ⟨M4, eM4, hs⟩ := lt_some hs
    refine x_iast F hq hP hS (arM_19 G q) g2 eM4 dX9_throwIt_29 (fun H locs hP hS => ?_)
    refine lv_aload_n F.1 F.2.1 dX9_throwIt_30 rfl (lv_at hl 0 rfl) ?_
    refine lv_iload_n F.1 F.2.1 dX9_throwIt_31 rfl (lv_at hl 1 rfl) ?_
    obtain ⟨M5, h3, hs⟩ := bn_some hs
    refine x_callV (rest := []) wv_X9_153 F hS (fun _ h => h) hS.2.1 (tX9_put l G A q hq h3) hP (x_recv (ci := 7) F hP rfl (by decide) (eM_0 G q _)) rfl hl.1 rfl ⟨Nat.le_of_ble_eq_true rfl, Nat.le_of_ble_eq_true rfl⟩ ⟨Nat.le_refl _, Nat.le_refl _⟩ (Nat.le_of_ble_eq_true rfl) dX9_throwIt_32 (fun H locs hP hS _ _ => ?_)
    refine lv_aload_n F.1 F.2.1 dX9_throwIt_35 rfl (lv_at hl 0 rfl) ?_
    refine gM_X9_61 F hP dX9_throwIt_36 ?_
    refine lv_aload_n F.1 F.2.1 dX9_throwIt_39 rfl (lv_at hl 0 rfl) ?_
    obtain ⟨r3, h4, hs⟩ := bn_some hs
    refine x_callI (rest := [.ref (q 15)]) wv_X9_101 F hS (fun _ h => h) hS.2.1 (tX9_top l G A q hq h4) hP (x_recv (ci := 7) F hP rfl (by decide) (eM_0 G q _)) rfl hl.1 rfl ⟨Nat.le_of_ble_eq_true rfl, Nat.le_of_ble_eq_true rfl⟩ ⟨Nat.le_refl _, Nat.le_refl _⟩ (Nat.le_of_ble_eq_true rfl) dX9_throwIt_40 (fun H locs hP hS _ _ => ?_)
    refine lv_aload_n F.1 F.2.1 dX9_throwIt_43 rfl (lv_at hl 0 rfl) ?_
    refine gM_X9_76 F hP dX9_throwIt_44 ?_
    refine lv_aload_n F.1 F.2.1 dX9_throwIt_47 rfl (lv_at hl 0 rfl) ?_
    obtain ⟨r4, h5, hs⟩ := bn_some hs
    refine x_callI (rest := [.ref (q 20), .int r3, .ref (q 15)]) wv_X9_101 F hS (fun _ h => h) hS.2.1 (tX9_top l G A q hq h5) hP (x_recv (ci := 7) F hP rfl (by decide) (eM_0 G q _)) rfl hl.1 rfl ⟨Nat.le_of_ble_eq_true rfl, Nat.le_of_ble_eq_true rfl⟩ ⟨Nat.le_refl _, Nat.le_refl _⟩ (Nat.le_of_ble_eq_true rfl) dX9_throwIt_48 (fun H locs hP hS _ _ => ?_)
    obtain ⟨g3, hs⟩ := gd_some hs
    refine x_iald F hP (arM_20 G q) g3 dX9_throwIt_51 ?_
    obtain ⟨g4, hs⟩ := gd_some hs
    obtain ⟨M6, eM6, hs⟩ := lt_some hs
    refine x_iast F hq hP hS (arM_15 G q) g4 eM6 dX9_throwIt_52 (fun H locs hP hS => ?_)
    refine lv_aload_n F.1 F.2.1 dX9_throwIt_53 rfl (lv_at hl 0 rfl) ?_
    refine gM_X9_64 F hP dX9_throwIt_54 ?_
    refine lv_aload_n F.1 F.2.1 dX9_throwIt_57 rfl (lv_at hl 0 rfl) ?_
    obtain ⟨r5, h6, hs⟩ := bn_some hs
    refine x_callI (rest := [.ref (q 16)]) wv_X9_101 F hS (fun _ h => h) hS.2.1 (tX9_top l G A q hq h6) hP (x_recv (ci := 7) F hP rfl (by decide) (eM_0 G q _)) rfl hl.1 rfl ⟨Nat.le_of_ble_eq_true rfl, Nat.le_of_ble_eq_true rfl⟩ ⟨Nat.le_refl _, Nat.le_refl _⟩ (Nat.le_of_ble_eq_true rfl) dX9_throwIt_58 (fun H locs hP hS _ _ => ?_)
    refine lv_iconst (v := (-1)) F.1 F.2.1 dX9_throwIt_61 rfl ?_
    obtain ⟨g5, hs⟩ := gd_some hs
    obtain ⟨M7, eM7, hs⟩ := lt_some hs
    refine x_iast F hq hP hS (arM_16 G q) g5 eM7 dX9_throwIt_62 (fun H locs hP hS => ?_)
    cases hs
    exact x_vret F hP hS dX9_throwIt_63
set_option maxHeartbeats 4000000 in
set_option maxRecDepth 100000 in
theorem tX9_throwIt (l : Launch) (G : zG) (A : Nat → Prop) (q : Nat → Nat) (hq : zQD A 21 q) {M M' : St} {x1 : Int32} (hs : pX9_throwIt M x1 = some M') : zKV l yX9_throwIt cX9_throwIt 2 3 61 G A (zP G.1 21 q (eM G q) M) [.ref (q 0), .int x1] (zP G.1 21 q (eM G q) M') := by
  refine zKV_of (by decide) (Nat.le_of_ble_eq_true rfl) (fun p e s m args below meth c H ls F hH hP hl => ?_)
  have F : zFx p s m args meth c cX9_throwIt RX9 2 none G A := F
  have hS : va_S A s.heap H [] := hH ▸ va_S.rf
  have hl : lv_has ls 2 [(0, .ref (q 0)), (1, .int x1)] := hl
  rw [pX9_throwIt] at hs
  refine lv_aload_n F.1 F.2.1 dX9_throwIt_0 rfl (lv_at hl 0 rfl) ?_
  refine gM_X9_98 F hP dX9_throwIt_1 ?_
  refine lv_if_le (tgt := 77) F.1 F.2.1 dX9_throwIt_4 (by decide) (fun c1 => ?_) (fun c1 => ?_)
  · have hs := it_t c1 hs
    refine lv_aload_n F.1 F.2.1 dX9_throwIt_77 rfl (lv_at hl 0 rfl) ?_
    refine lv_bipush (v := 20) F.1 F.2.1 dX9_throwIt_78 rfl ?_
    obtain ⟨M1, eM1, hs⟩ := lt_some hs
    refine hM_X9_157 F hq hP hS eM1 dX9_throwIt_80 (fun H locs hP hS => ?_)
    refine lv_aload_n F.1 F.2.1 dX9_throwIt_83 rfl (lv_at hl 0 rfl) ?_
    refine lv_iload_n F.1 F.2.1 dX9_throwIt_84 rfl (lv_at hl 1 rfl) ?_
    refine lv_i2s F.1 F.2.1 dX9_throwIt_85 rfl ?_
    obtain ⟨M2, eM2, hs⟩ := lt_some hs
    refine hM_X9_160 F hq hP hS eM2 dX9_throwIt_86 (fun H locs hP hS => ?_)
    cases hs
    exact x_vret F hP hS dX9_throwIt_89
  have hs := it_f c1 hs
  refine lv_aload_n F.1 F.2.1 dX9_throwIt_7 rfl (lv_at hl 0 rfl) ?_
  refine gM_X9_64 F hP dX9_throwIt_8 ?_
  refine lv_aload_n F.1 F.2.1 dX9_throwIt_11 rfl (lv_at hl 0 rfl) ?_
  obtain ⟨r1, h1, hs⟩ := bn_some hs
  refine x_callI (rest := [.ref (q 16)]) wv_X9_101 F hS (fun _ h => h) hS.2.1 (tX9_top l G A q hq h1) hP (x_recv (ci := 7) F hP rfl (by decide) (eM_0 G q _)) rfl hl.1 rfl ⟨Nat.le_of_ble_eq_true rfl, Nat.le_of_ble_eq_true rfl⟩ ⟨Nat.le_refl _, Nat.le_refl _⟩ (Nat.le_of_ble_eq_true rfl) dX9_throwIt_12 (fun H locs hP hS _ _ => ?_)
  obtain ⟨g1, hs⟩ := gd_some hs
  refine x_iald F hP (arM_16 G q) g1 dX9_throwIt_15 ?_
  refine lv_iconst (v := (-1)) F.1 F.2.1 dX9_throwIt_16 rfl ?_
  refine lv_icmp_eq (tgt := 64) F.1 F.2.1 dX9_throwIt_17 (by decide) (fun c2 => ?_) (fun c2 => ?_)
  · have hs := it_t c2 hs
    refine lv_aload_n F.1 F.2.1 dX9_throwIt_64 rfl (lv_at hl 0 rfl) ?_
    refine lv_dup F.1 F.2.1 dX9_throwIt_65 rfl ?_
    refine gM_X9_98 F hP dX9_throwIt_66 ?_
    refine lv_iconst (v := 1) F.1 F.2.1 dX9_throwIt_69 rfl ?_
    refine lv_isub F.1 F.2.1 dX9_throwIt_70 ?_
    obtain ⟨M3, eM3, hs⟩ := lt_some hs
    refine hM_X9_98 F hq hP hS eM3 dX9_throwIt_71 (fun H locs hP hS => ?_)
    refine lv_goto (tgt := 0) F.1 F.2.1 dX9_throwIt_74 (by decide) ?_
    exact tX9_throwIt_b0 LF hq hs F hP hS (lv_sub hl [0, 1] rfl)
  have hs := it_f c2 hs
  refine lv_aload_n F.1 F.2.1 dX9_throwIt_20 rfl (lv_at hl 0 rfl) ?_
  refine gM_X9_73 F hP dX9_throwIt_21 ?_
  refine lv_aload_n F.1 F.2.1 dX9_throwIt_24 rfl (lv_at hl 0 rfl) ?_
  obtain ⟨r2, h2, hs⟩ := bn_some hs
  refine x_callI (rest := [.ref (q 19)]) wv_X9_101 F hS (fun _ h => h) hS.2.1 (tX9_top l G A q hq h2) hP (x_recv (ci := 7) F hP rfl (by decide) (eM_0 G q _)) rfl hl.1 rfl ⟨Nat.le_of_ble_eq_true rfl, Nat.le_of_ble_eq_true rfl⟩ ⟨Nat.le_refl _, Nat.le_refl _⟩ (Nat.le_of_ble_eq_true rfl) dX9_throwIt_25 (fun H locs hP hS _ _ => ?_)
  refine lv_iconst (v := 0) F.1 F.2.1 dX9_throwIt_28 rfl ?_
  obtain ⟨g2, hs⟩ := gd_some hs
  obtain ⟨M4, eM4, hs⟩ := lt_some hs
  refine x_iast F hq hP hS (arM_19 G q) g2 eM4 dX9_throwIt_29 (fun H locs hP hS => ?_)
  refine lv_aload_n F.1 F.2.1 dX9_throwIt_30 rfl (lv_at hl 0 rfl) ?_
  refine lv_iload_n F.1 F.2.1 dX9_throwIt_31 rfl (lv_at hl 1 rfl) ?_
  obtain ⟨M5, h3, hs⟩ := bn_some hs
  refine x_callV (rest := []) wv_X9_153 F hS (fun _ h => h) hS.2.1 (tX9_put l G A q hq h3) hP (x_recv (ci := 7) F hP rfl (by decide) (eM_0 G q _)) rfl hl.1 rfl ⟨Nat.le_of_ble_eq_true rfl, Nat.le_of_ble_eq_true rfl⟩ ⟨Nat.le_refl _, Nat.le_refl _⟩ (Nat.le_of_ble_eq_true rfl) dX9_throwIt_32 (fun H locs hP hS _ _ => ?_)
  refine lv_aload_n F.1 F.2.1 dX9_throwIt_35 rfl (lv_at hl 0 rfl) ?_
  refine gM_X9_61 F hP dX9_throwIt_36 ?_
  refine lv_aload_n F.1 F.2.1 dX9_throwIt_39 rfl (lv_at hl 0 rfl) ?_
  obtain ⟨r3, h4, hs⟩ := bn_some hs
  refine x_callI (rest := [.ref (q 15)]) wv_X9_101 F hS (fun _ h => h) hS.2.1 (tX9_top l G A q hq h4) hP (x_recv (ci := 7) F hP rfl (by decide) (eM_0 G q _)) rfl hl.1 rfl ⟨Nat.le_of_ble_eq_true rfl, Nat.le_of_ble_eq_true rfl⟩ ⟨Nat.le_refl _, Nat.le_refl _⟩ (Nat.le_of_ble_eq_true rfl) dX9_throwIt_40 (fun H locs hP hS _ _ => ?_)
  refine lv_aload_n F.1 F.2.1 dX9_throwIt_43 rfl (lv_at hl 0 rfl) ?_
  refine gM_X9_76 F hP dX9_throwIt_44 ?_
  refine lv_aload_n F.1 F.2.1 dX9_throwIt_47 rfl (lv_at hl 0 rfl) ?_
  obtain ⟨r4, h5, hs⟩ := bn_some hs
  refine x_callI (rest := [.ref (q 20), .int r3, .ref (q 15)]) wv_X9_101 F hS (fun _ h => h) hS.2.1 (tX9_top l G A q hq h5) hP (x_recv (ci := 7) F hP rfl (by decide) (eM_0 G q _)) rfl hl.1 rfl ⟨Nat.le_of_ble_eq_true rfl, Nat.le_of_ble_eq_true rfl⟩ ⟨Nat.le_refl _, Nat.le_refl _⟩ (Nat.le_of_ble_eq_true rfl) dX9_throwIt_48 (fun H locs hP hS _ _ => ?_)
  obtain ⟨g3, hs⟩ := gd_some hs
  refine x_iald F hP (arM_20 G q) g3 dX9_throwIt_51 ?_
  obtain ⟨g4, hs⟩ := gd_some hs
  obtain ⟨M6, eM6, hs⟩ := lt_some hs
  refine x_iast F hq hP hS (arM_15 G q) g4 eM6 dX9_throwIt_52 (fun H locs hP hS => ?_)
  refine lv_aload_n F.1 F.2.1 dX9_throwIt_53 rfl (lv_at hl 0 rfl) ?_
  refine gM_X9_64 F hP dX9_throwIt_54 ?_
  refine lv_aload_n F.1 F.2.1 dX9_throwIt_57 rfl (lv_at hl 0 rfl) ?_
  obtain ⟨r5, h6, hs⟩ := bn_some hs
  refine x_callI (rest := [.ref (q 16)]) wv_X9_101 F hS (fun _ h => h) hS.2.1 (tX9_top l G A q hq h6) hP (x_recv (ci := 7) F hP rfl (by decide) (eM_0 G q _)) rfl hl.1 rfl ⟨Nat.le_of_ble_eq_true rfl, Nat.le_of_ble_eq_true rfl⟩ ⟨Nat.le_refl _, Nat.le_refl _⟩ (Nat.le_of_ble_eq_true rfl) dX9_throwIt_58 (fun H locs hP hS _ _ => ?_)
  refine lv_iconst (v := (-1)) F.1 F.2.1 dX9_throwIt_61 rfl ?_
  obtain ⟨g5, hs⟩ := gd_some hs
  obtain ⟨M7, eM7, hs⟩ := lt_some hs
  refine x_iast F hq hP hS (arM_16 G q) g5 eM7 dX9_throwIt_62 (fun H locs hP hS => ?_)
  cases hs
  exact x_vret F hP hS dX9_throwIt_63

def pX9_make_b31 (M : St) (x1 : Int32) (x2 : Int32) (t0 : Int32) (t1 : Int32) : Option St :=
  lt (up2 M 0 14 (t1 + t0)) fun M1 =>
  bn (pX9_top M1) fun r1 =>
  gd (inb r1 8) <|
  bn (pX9_add M1 (M1 14 (ix r1)) x1 x2) fun M2 =>
  bn (pX9_on M2 2) fun M3 =>
  bn (pX9_put M3 (M3 0 4)) fun M4 =>
  some M4
def pX9_make (M : St) (x1 : Int32) : Option St :=
  bn (pX9_byteAt M 1) fun r1 =>
  bn2 (pX9_writes M) fun r2 M1 =>
  if r2 = 0 then
    some M1
  else
    if M1 0 13 = 0 then
      pX9_make_b31 M1 x1 r1 0 (M1 0 14)
    else
      pX9_make_b31 M1 x1 r1 1 (M1 0 14)
set_option maxHeartbeats 4000000 in
set_option maxRecDepth 100000 in
theorem tX9_make_b31 {G : zG} {A : Nat → Prop} {q : Nat → Nat} (hq : zQD A 21 q) {M M' : St} {x1 : Int32} {x2 : Int32} {t0 : Int32} {t1 : Int32} (hs : pX9_make_b31 M x1 x2 t0 t1 = some M') {p : Program} {l : Launch} {e : Env} {s : State} {m : MethodId} {args : Array Value} {below : List Frame} {meth : Method} {c : Code} {H : Heap} {locs : List Loc} {ls : Array Slot} (F : zFx p s m args meth c cX9_make RX9 3 none G A) (hP : (zP G.1 21 q (eM G q) M) H) (hS : va_S A s.heap H locs) (hl : lv_has ls 3 [(0, .ref (q 0)), (1, .int x1), (2, .int x2)]) : W p l e { frames := 3, cells := 0, slots := 0, locals := 61 } s m args below meth c H locs 0 0 (MQ below (va_Qv (fun (_ : Unit) => True) (fun _ U => (zP G.1 21 q (eM G q) M') U.heap) A) args s 0 0 A) (F0 m 31 ls [.int t0, .int t1, .ref (q 0)]) := by
  rw [pX9_make_b31] at hs
  refine lv_iadd F.1 F.2.1 dX9_make_31 ?_
  obtain ⟨M1, eM1, hs⟩ := lt_some hs
  refine hM_X9_134 F hq hP hS eM1 dX9_make_32 (fun H locs hP hS => ?_)
  refine lv_aload_n F.1 F.2.1 dX9_make_35 rfl (lv_at hl 0 rfl) ?_
  refine lv_aload_n F.1 F.2.1 dX9_make_36 rfl (lv_at hl 0 rfl) ?_
  refine gM_X9_58 F hP dX9_make_37 ?_
  refine lv_aload_n F.1 F.2.1 dX9_make_40 rfl (lv_at hl 0 rfl) ?_
  obtain ⟨r1, h1, hs⟩ := bn_some hs
  refine x_callI (rest := [.ref (q 14), .ref (q 0)]) wv_X9_101 F hS (fun _ h => h) hS.2.1 (tX9_top l G A q hq h1) hP (x_recv (ci := 7) F hP rfl (by decide) (eM_0 G q _)) rfl hl.1 rfl ⟨Nat.le_of_ble_eq_true rfl, Nat.le_of_ble_eq_true rfl⟩ ⟨Nat.le_refl _, Nat.le_refl _⟩ (Nat.le_of_ble_eq_true rfl) dX9_make_41 (fun H locs hP hS _ _ => ?_)
  obtain ⟨g1, hs⟩ := gd_some hs
  refine x_iald F hP (arM_14 G q) g1 dX9_make_44 ?_
  refine lv_iload_n F.1 F.2.1 dX9_make_45 rfl (lv_at hl 1 rfl) ?_
  refine lv_iload_n F.1 F.2.1 dX9_make_46 rfl (lv_at hl 2 rfl) ?_
  obtain ⟨M2, h2, hs⟩ := bn_some hs
  refine x_callV (rest := []) wv_X9_79 F hS (fun _ h => h) hS.2.1 (tX9_add l G A q hq h2) hP (x_recv (ci := 7) F hP rfl (by decide) (eM_0 G q _)) rfl hl.1 rfl ⟨Nat.le_of_ble_eq_true rfl, Nat.le_of_ble_eq_true rfl⟩ ⟨Nat.le_refl _, Nat.le_refl _⟩ (Nat.le_of_ble_eq_true rfl) dX9_make_47 (fun H locs hP hS _ _ => ?_)
  refine lv_aload_n F.1 F.2.1 dX9_make_50 rfl (lv_at hl 0 rfl) ?_
  refine lv_iconst (v := 2) F.1 F.2.1 dX9_make_51 rfl ?_
  obtain ⟨M3, h3, hs⟩ := bn_some hs
  refine x_callV (rest := []) wv_X9_167 F hS (fun _ h => h) hS.2.1 (tX9_on l G A q hq h3) hP (x_recv (ci := 7) F hP rfl (by decide) (eM_0 G q _)) rfl hl.1 rfl ⟨Nat.le_of_ble_eq_true rfl, Nat.le_of_ble_eq_true rfl⟩ ⟨Nat.le_refl _, Nat.le_refl _⟩ (Nat.le_of_ble_eq_true rfl) dX9_make_52 (fun H locs hP hS _ _ => ?_)
  refine lv_aload_n F.1 F.2.1 dX9_make_55 rfl (lv_at hl 0 rfl) ?_
  refine lv_aload_n F.1 F.2.1 dX9_make_56 rfl (lv_at hl 0 rfl) ?_
  refine gM_X9_83 F hP dX9_make_57 ?_
  obtain ⟨M4, h4, hs⟩ := bn_some hs
  refine x_callV (rest := []) wv_X9_153 F hS (fun _ h => h) hS.2.1 (tX9_put l G A q hq h4) hP (x_recv (ci := 7) F hP rfl (by decide) (eM_0 G q _)) rfl hl.1 rfl ⟨Nat.le_of_ble_eq_true rfl, Nat.le_of_ble_eq_true rfl⟩ ⟨Nat.le_refl _, Nat.le_refl _⟩ (Nat.le_of_ble_eq_true rfl) dX9_make_60 (fun H locs hP hS _ _ => ?_)
  cases hs
  exact x_vret F hP hS dX9_make_63
set_option maxHeartbeats 4000000 in
set_option maxRecDepth 100000 in
theorem tX9_make (l : Launch) (G : zG) (A : Nat → Prop) (q : Nat → Nat) (hq : zQD A 21 q) {M M' : St} {x1 : Int32} (hs : pX9_make M x1 = some M') : zKV l yX9_make cX9_make 3 3 61 G A (zP G.1 21 q (eM G q) M) [.ref (q 0), .int x1] (zP G.1 21 q (eM G q) M') := by
  refine zKV_of (by decide) (Nat.le_of_ble_eq_true rfl) (fun p e s m args below meth c H ls F hH hP hl => ?_)
  have F : zFx p s m args meth c cX9_make RX9 3 none G A := F
  have hS : va_S A s.heap H [] := hH ▸ va_S.rf
  have hl : lv_has ls 3 [(0, .ref (q 0)), (1, .int x1)] := hl
  rw [pX9_make] at hs
  refine lv_aload_n F.1 F.2.1 dX9_make_0 rfl (lv_at hl 0 rfl) ?_
  refine lv_iconst (v := 1) F.1 F.2.1 dX9_make_1 rfl ?_
  obtain ⟨r1, h1, hs⟩ := bn_some hs
  refine x_callI (rest := []) wv_X9_111 F hS (fun _ h => h) hS.2.1 (tX9_byteAt l G A q hq h1) hP (x_recv (ci := 7) F hP rfl (by decide) (eM_0 G q _)) rfl hl.1 rfl ⟨Nat.le_of_ble_eq_true rfl, Nat.le_of_ble_eq_true rfl⟩ ⟨Nat.le_refl _, Nat.le_refl _⟩ (Nat.le_of_ble_eq_true rfl) dX9_make_2 (fun H locs hP hS _ _ => ?_)
  refine lv_istore_n (lv' := [(2, .int r1), (0, .ref (q 0)), (1, .int x1)]) F.1 F.2.1 dX9_make_5 rfl hl (by decide) rfl (fun ls hl => ?_)
  refine lv_aload_n F.1 F.2.1 dX9_make_6 rfl (lv_at hl 1 rfl) ?_
  obtain ⟨r2, M1, h2, hs⟩ := bn2_some hs
  refine x_callI (rest := []) wv_X9_163 F hS (fun _ h => h) hS.2.1 (tX9_writes l G A q hq h2) hP (x_recv (ci := 7) F hP rfl (by decide) (eM_0 G q _)) rfl hl.1 rfl ⟨Nat.le_of_ble_eq_true rfl, Nat.le_of_ble_eq_true rfl⟩ ⟨Nat.le_refl _, Nat.le_refl _⟩ (Nat.le_of_ble_eq_true rfl) dX9_make_7 (fun H locs hP hS _ _ => ?_)
  refine lv_if_ne (tgt := 14) F.1 F.2.1 dX9_make_10 (by decide) (fun c1 => ?_) (fun c1 => ?_)
  · have hs := it_f c1 hs
    refine lv_aload_n F.1 F.2.1 dX9_make_14 rfl (lv_at hl 1 rfl) ?_
    refine lv_dup F.1 F.2.1 dX9_make_15 rfl ?_
    refine gM_X9_134 F hP dX9_make_16 ?_
    refine lv_aload_n F.1 F.2.1 dX9_make_19 rfl (lv_at hl 1 rfl) ?_
    refine gM_X9_131 F hP dX9_make_20 ?_
    refine lv_if_eq (tgt := 30) F.1 F.2.1 dX9_make_23 (by decide) (fun c2 => ?_) (fun c2 => ?_)
    · have hs := it_t c2 hs
      refine lv_iconst (v := 0) F.1 F.2.1 dX9_make_30 rfl ?_
      exact tX9_make_b31 hq hs F hP hS (lv_sub hl [1, 2, 0] rfl)
    have hs := it_f c2 hs
    refine lv_iconst (v := 1) F.1 F.2.1 dX9_make_26 rfl ?_
    refine lv_goto (tgt := 31) F.1 F.2.1 dX9_make_27 (by decide) ?_
    exact tX9_make_b31 hq hs F hP hS (lv_sub hl [1, 2, 0] rfl)
  have hs := it_t c1 hs
  cases hs
  exact x_vret F hP hS dX9_make_13

def pX9_store_b85 (M : St) (x1 : Int32) (x2 : Int32) (x3 : Int32) : Option St :=
  gd (inb x1 41) <|
  if M 6 (ix x1) = 1 then
    gd (inb x3 240) <|
    lt (up2 M 9 (ix x3) (x2.toInt8.toInt32)) fun M4 =>
    bn (pX9_drop M4 3) fun M5 =>
    bn (pX9_on M5 1) fun M6 =>
    some M6
  else
    gd (inb x3 240) <|
    lt (up2 M 9 (ix x3) x2) fun M1 =>
    bn (pX9_drop M1 3) fun M2 =>
    bn (pX9_on M2 1) fun M3 =>
    some M3
def pX9_store (M : St) : Option St :=
  bn (pX9_at M 2) fun r1 =>
  bn (pX9_at M 0) fun r2 =>
  gd (inb r1 41) <|
  bn (pX9_at M 1) fun r3 =>
  bn2 (pX9_writes M) fun r4 M1 =>
  if r4 = 0 then
    some M1
  else
    if M1 0 13 = 0 then
      pX9_store_b85 M1 r1 r2 ((M 8 (ix r1)) + r3)
    else
      lt (up2 M1 0 14 ((M1 0 14) + 1)) fun M2 =>
      gd (inb (M2 0 15) 20) <|
      lt (up2 M2 10 (ix (M2 0 15)) ((M 8 (ix r1)) + r3)) fun M3 =>
      gd (inb ((M 8 (ix r1)) + r3) 240) <|
      gd (inb (M3 0 15) 20) <|
      lt (up2 M3 11 (ix (M3 0 15)) (M3 9 (ix ((M 8 (ix r1)) + r3)))) fun M4 =>
      lt (up2 M4 0 15 ((M4 0 15) + 1)) fun M5 =>
      pX9_store_b85 M5 r1 r2 ((M 8 (ix r1)) + r3)
set_option maxHeartbeats 4000000 in
set_option maxRecDepth 100000 in
theorem tX9_store_b85 {G : zG} {A : Nat → Prop} {q : Nat → Nat} (hq : zQD A 21 q) {M M' : St} {x1 : Int32} {x2 : Int32} {x3 : Int32} (hs : pX9_store_b85 M x1 x2 x3 = some M') {p : Program} {l : Launch} {e : Env} {s : State} {m : MethodId} {args : Array Value} {below : List Frame} {meth : Method} {c : Code} {H : Heap} {locs : List Loc} {ls : Array Slot} (F : zFx p s m args meth c cX9_store RX9 4 none G A) (hP : (zP G.1 21 q (eM G q) M) H) (hS : va_S A s.heap H locs) (hl : lv_has ls 4 [(0, .ref (q 0)), (1, .int x1), (2, .int x2), (3, .int x3)]) : W p l e { frames := 3, cells := 0, slots := 0, locals := 61 } s m args below meth c H locs 0 0 (MQ below (va_Qv (fun (_ : Unit) => True) (fun _ U => (zP G.1 21 q (eM G q) M') U.heap) A) args s 0 0 A) (F0 m 85 ls []) := by
  rw [pX9_store_b85] at hs
  refine lv_aload_n F.1 F.2.1 dX9_store_85 rfl (lv_at hl 0 rfl) ?_
  refine gM_X9_35 F hP dX9_store_86 ?_
  refine lv_iload_n F.1 F.2.1 dX9_store_89 rfl (lv_at hl 3 rfl) ?_
  refine lv_aload_n F.1 F.2.1 dX9_store_90 rfl (lv_at hl 0 rfl) ?_
  refine gM_X9_26 F hP dX9_store_91 ?_
  refine lv_iload_n F.1 F.2.1 dX9_store_94 rfl (lv_at hl 1 rfl) ?_
  obtain ⟨g1, hs⟩ := gd_some hs
  refine x_iald F hP (arM_6 G q) g1 dX9_store_95 ?_
  refine lv_iconst (v := 1) F.1 F.2.1 dX9_store_96 rfl ?_
  refine lv_icmp_ne (tgt := 105) F.1 F.2.1 dX9_store_97 (by decide) (fun c1 => ?_) (fun c1 => ?_)
  · have hs := it_f c1 hs
    refine lv_iload_n F.1 F.2.1 dX9_store_105 rfl (lv_at hl 2 rfl) ?_
    obtain ⟨g2, hs⟩ := gd_some hs
    obtain ⟨M1, eM1, hs⟩ := lt_some hs
    refine x_iast F hq hP hS (arM_9 G q) g2 eM1 dX9_store_106 (fun H locs hP hS => ?_)
    refine lv_aload_n F.1 F.2.1 dX9_store_107 rfl (lv_at hl 0 rfl) ?_
    refine lv_iconst (v := 3) F.1 F.2.1 dX9_store_108 rfl ?_
    obtain ⟨M2, h1, hs⟩ := bn_some hs
    refine x_callV (rest := []) wv_X9_170 F hS (fun _ h => h) hS.2.1 (tX9_drop l G A q hq h1) hP (x_recv (ci := 7) F hP rfl (by decide) (eM_0 G q _)) rfl hl.1 rfl ⟨Nat.le_of_ble_eq_true rfl, Nat.le_of_ble_eq_true rfl⟩ ⟨Nat.le_refl _, Nat.le_refl _⟩ (Nat.le_of_ble_eq_true rfl) dX9_store_109 (fun H locs hP hS _ _ => ?_)
    refine lv_aload_n F.1 F.2.1 dX9_store_112 rfl (lv_at hl 0 rfl) ?_
    refine lv_iconst (v := 1) F.1 F.2.1 dX9_store_113 rfl ?_
    obtain ⟨M3, h2, hs⟩ := bn_some hs
    refine x_callV (rest := []) wv_X9_167 F hS (fun _ h => h) hS.2.1 (tX9_on l G A q hq h2) hP (x_recv (ci := 7) F hP rfl (by decide) (eM_0 G q _)) rfl hl.1 rfl ⟨Nat.le_of_ble_eq_true rfl, Nat.le_of_ble_eq_true rfl⟩ ⟨Nat.le_refl _, Nat.le_refl _⟩ (Nat.le_of_ble_eq_true rfl) dX9_store_114 (fun H locs hP hS _ _ => ?_)
    cases hs
    exact x_vret F hP hS dX9_store_117
  have hs := it_t c1 hs
  refine lv_iload_n F.1 F.2.1 dX9_store_100 rfl (lv_at hl 2 rfl) ?_
  refine lv_i2b F.1 F.2.1 dX9_store_101 rfl ?_
  refine lv_goto (tgt := 106) F.1 F.2.1 dX9_store_102 (by decide) ?_
  obtain ⟨g3, hs⟩ := gd_some hs
  obtain ⟨M4, eM4, hs⟩ := lt_some hs
  refine x_iast F hq hP hS (arM_9 G q) g3 eM4 dX9_store_106 (fun H locs hP hS => ?_)
  refine lv_aload_n F.1 F.2.1 dX9_store_107 rfl (lv_at hl 0 rfl) ?_
  refine lv_iconst (v := 3) F.1 F.2.1 dX9_store_108 rfl ?_
  obtain ⟨M5, h3, hs⟩ := bn_some hs
  refine x_callV (rest := []) wv_X9_170 F hS (fun _ h => h) hS.2.1 (tX9_drop l G A q hq h3) hP (x_recv (ci := 7) F hP rfl (by decide) (eM_0 G q _)) rfl hl.1 rfl ⟨Nat.le_of_ble_eq_true rfl, Nat.le_of_ble_eq_true rfl⟩ ⟨Nat.le_refl _, Nat.le_refl _⟩ (Nat.le_of_ble_eq_true rfl) dX9_store_109 (fun H locs hP hS _ _ => ?_)
  refine lv_aload_n F.1 F.2.1 dX9_store_112 rfl (lv_at hl 0 rfl) ?_
  refine lv_iconst (v := 1) F.1 F.2.1 dX9_store_113 rfl ?_
  obtain ⟨M6, h4, hs⟩ := bn_some hs
  refine x_callV (rest := []) wv_X9_167 F hS (fun _ h => h) hS.2.1 (tX9_on l G A q hq h4) hP (x_recv (ci := 7) F hP rfl (by decide) (eM_0 G q _)) rfl hl.1 rfl ⟨Nat.le_of_ble_eq_true rfl, Nat.le_of_ble_eq_true rfl⟩ ⟨Nat.le_refl _, Nat.le_refl _⟩ (Nat.le_of_ble_eq_true rfl) dX9_store_114 (fun H locs hP hS _ _ => ?_)
  cases hs
  exact x_vret F hP hS dX9_store_117
set_option maxHeartbeats 4000000 in
set_option maxRecDepth 100000 in
theorem tX9_store (l : Launch) (G : zG) (A : Nat → Prop) (q : Nat → Nat) (hq : zQD A 21 q) {M M' : St} (hs : pX9_store M = some M') : zKV l yX9_store cX9_store 4 3 61 G A (zP G.1 21 q (eM G q) M) [.ref (q 0)] (zP G.1 21 q (eM G q) M') := by
  refine zKV_of (by decide) (Nat.le_of_ble_eq_true rfl) (fun p e s m args below meth c H ls F hH hP hl => ?_)
  have F : zFx p s m args meth c cX9_store RX9 4 none G A := F
  have hS : va_S A s.heap H [] := hH ▸ va_S.rf
  have hl : lv_has ls 4 [(0, .ref (q 0))] := hl
  rw [pX9_store] at hs
  refine lv_aload_n F.1 F.2.1 dX9_store_0 rfl (lv_at hl 0 rfl) ?_
  refine lv_iconst (v := 2) F.1 F.2.1 dX9_store_1 rfl ?_
  obtain ⟨r1, h1, hs⟩ := bn_some hs
  refine x_callI (rest := []) wv_X9_121 F hS (fun _ h => h) hS.2.1 (tX9_at l G A q hq h1) hP (x_recv (ci := 7) F hP rfl (by decide) (eM_0 G q _)) rfl hl.1 rfl ⟨Nat.le_of_ble_eq_true rfl, Nat.le_of_ble_eq_true rfl⟩ ⟨Nat.le_refl _, Nat.le_refl _⟩ (Nat.le_of_ble_eq_true rfl) dX9_store_2 (fun H locs hP hS _ _ => ?_)
  refine lv_istore_n (lv' := [(1, .int r1), (0, .ref (q 0))]) F.1 F.2.1 dX9_store_5 rfl hl (by decide) rfl (fun ls hl => ?_)
  refine lv_aload_n F.1 F.2.1 dX9_store_6 rfl (lv_at hl 1 rfl) ?_
  refine lv_iconst (v := 0) F.1 F.2.1 dX9_store_7 rfl ?_
  obtain ⟨r2, h2, hs⟩ := bn_some hs
  refine x_callI (rest := []) wv_X9_121 F hS (fun _ h => h) hS.2.1 (tX9_at l G A q hq h2) hP (x_recv (ci := 7) F hP rfl (by decide) (eM_0 G q _)) rfl hl.1 rfl ⟨Nat.le_of_ble_eq_true rfl, Nat.le_of_ble_eq_true rfl⟩ ⟨Nat.le_refl _, Nat.le_refl _⟩ (Nat.le_of_ble_eq_true rfl) dX9_store_8 (fun H locs hP hS _ _ => ?_)
  refine lv_istore_n (lv' := [(2, .int r2), (1, .int r1), (0, .ref (q 0))]) F.1 F.2.1 dX9_store_11 rfl hl (by decide) rfl (fun ls hl => ?_)
  refine lv_aload_n F.1 F.2.1 dX9_store_12 rfl (lv_at hl 2 rfl) ?_
  refine gM_X9_32 F hP dX9_store_13 ?_
  refine lv_iload_n F.1 F.2.1 dX9_store_16 rfl (lv_at hl 1 rfl) ?_
  obtain ⟨g1, hs⟩ := gd_some hs
  refine x_iald F hP (arM_8 G q) g1 dX9_store_17 ?_
  refine lv_aload_n F.1 F.2.1 dX9_store_18 rfl (lv_at hl 2 rfl) ?_
  refine lv_iconst (v := 1) F.1 F.2.1 dX9_store_19 rfl ?_
  obtain ⟨r3, h3, hs⟩ := bn_some hs
  refine x_callI (rest := [.int (M 8 (ix r1))]) wv_X9_121 F hS (fun _ h => h) hS.2.1 (tX9_at l G A q hq h3) hP (x_recv (ci := 7) F hP rfl (by decide) (eM_0 G q _)) rfl hl.1 rfl ⟨Nat.le_of_ble_eq_true rfl, Nat.le_of_ble_eq_true rfl⟩ ⟨Nat.le_refl _, Nat.le_refl _⟩ (Nat.le_of_ble_eq_true rfl) dX9_store_20 (fun H locs hP hS _ _ => ?_)
  refine lv_iadd F.1 F.2.1 dX9_store_23 ?_
  refine lv_istore_n (lv' := [(3, .int ((M 8 (ix r1)) + r3)), (2, .int r2), (1, .int r1), (0, .ref (q 0))]) F.1 F.2.1 dX9_store_24 rfl hl (by decide) rfl (fun ls hl => ?_)
  refine lv_aload_n F.1 F.2.1 dX9_store_25 rfl (lv_at hl 3 rfl) ?_
  obtain ⟨r4, M1, h4, hs⟩ := bn2_some hs
  refine x_callI (rest := []) wv_X9_163 F hS (fun _ h => h) hS.2.1 (tX9_writes l G A q hq h4) hP (x_recv (ci := 7) F hP rfl (by decide) (eM_0 G q _)) rfl hl.1 rfl ⟨Nat.le_of_ble_eq_true rfl, Nat.le_of_ble_eq_true rfl⟩ ⟨Nat.le_refl _, Nat.le_refl _⟩ (Nat.le_of_ble_eq_true rfl) dX9_store_26 (fun H locs hP hS _ _ => ?_)
  refine lv_if_ne (tgt := 33) F.1 F.2.1 dX9_store_29 (by decide) (fun c1 => ?_) (fun c1 => ?_)
  · have hs := it_f c1 hs
    refine lv_aload_n F.1 F.2.1 dX9_store_33 rfl (lv_at hl 3 rfl) ?_
    refine gM_X9_131 F hP dX9_store_34 ?_
    refine lv_if_eq (tgt := 85) F.1 F.2.1 dX9_store_37 (by decide) (fun c2 => ?_) (fun c2 => ?_)
    · have hs := it_t c2 hs
      exact tX9_store_b85 hq hs F hP hS (lv_sub hl [3, 2, 1, 0] rfl)
    have hs := it_f c2 hs
    refine lv_aload_n F.1 F.2.1 dX9_store_40 rfl (lv_at hl 3 rfl) ?_
    refine lv_dup F.1 F.2.1 dX9_store_41 rfl ?_
    refine gM_X9_134 F hP dX9_store_42 ?_
    refine lv_iconst (v := 1) F.1 F.2.1 dX9_store_45 rfl ?_
    refine lv_iadd F.1 F.2.1 dX9_store_46 ?_
    obtain ⟨M2, eM2, hs⟩ := lt_some hs
    refine hM_X9_134 F hq hP hS eM2 dX9_store_47 (fun H locs hP hS => ?_)
    refine lv_aload_n F.1 F.2.1 dX9_store_50 rfl (lv_at hl 3 rfl) ?_
    refine gM_X9_46 F hP dX9_store_51 ?_
    refine lv_aload_n F.1 F.2.1 dX9_store_54 rfl (lv_at hl 3 rfl) ?_
    refine gM_X9_144 F hP dX9_store_55 ?_
    refine lv_iload_n F.1 F.2.1 dX9_store_58 rfl (lv_at hl 0 rfl) ?_
    obtain ⟨g2, hs⟩ := gd_some hs
    obtain ⟨M3, eM3, hs⟩ := lt_some hs
    refine x_iast F hq hP hS (arM_10 G q) g2 eM3 dX9_store_59 (fun H locs hP hS => ?_)
    refine lv_aload_n F.1 F.2.1 dX9_store_60 rfl (lv_at hl 3 rfl) ?_
    refine gM_X9_49 F hP dX9_store_61 ?_
    refine lv_aload_n F.1 F.2.1 dX9_store_64 rfl (lv_at hl 3 rfl) ?_
    refine gM_X9_144 F hP dX9_store_65 ?_
    refine lv_aload_n F.1 F.2.1 dX9_store_68 rfl (lv_at hl 3 rfl) ?_
    refine gM_X9_35 F hP dX9_store_69 ?_
    refine lv_iload_n F.1 F.2.1 dX9_store_72 rfl (lv_at hl 0 rfl) ?_
    obtain ⟨g3, hs⟩ := gd_some hs
    refine x_iald F hP (arM_9 G q) g3 dX9_store_73 ?_
    obtain ⟨g4, hs⟩ := gd_some hs
    obtain ⟨M4, eM4, hs⟩ := lt_some hs
    refine x_iast F hq hP hS (arM_11 G q) g4 eM4 dX9_store_74 (fun H locs hP hS => ?_)
    refine lv_aload_n F.1 F.2.1 dX9_store_75 rfl (lv_at hl 3 rfl) ?_
    refine lv_dup F.1 F.2.1 dX9_store_76 rfl ?_
    refine gM_X9_144 F hP dX9_store_77 ?_
    refine lv_iconst (v := 1) F.1 F.2.1 dX9_store_80 rfl ?_
    refine lv_iadd F.1 F.2.1 dX9_store_81 ?_
    obtain ⟨M5, eM5, hs⟩ := lt_some hs
    refine hM_X9_144 F hq hP hS eM5 dX9_store_82 (fun H locs hP hS => ?_)
    exact tX9_store_b85 hq hs F hP hS (lv_sub hl [3, 2, 1, 0] rfl)
  have hs := it_t c1 hs
  cases hs
  exact x_vret F hP hS dX9_store_32

def pX9_copy_b73 : Nat → St → Int32 → Int32 → Int32 → Int32 → Option St
  | 0, _, _, _, _, _ => none
  | n + 1, M, x1, x2, x3, x4 =>
    if x1 ≤ x4 then
      bn (pX9_drop M 5) fun M1 =>
      bn (pX9_on M1 1) fun M2 =>
      some M2
    else
      bn2 (pX9_writes M) fun r1 M3 =>
      if r1 = 0 then
        some M3
      else
        gd (inb (x2 + x4) 240) <|
        gd (inb (x3 + x4) 240) <|
        lt (up2 M3 9 (ix (x3 + x4)) (M3 9 (ix (x2 + x4)))) fun M4 =>
        pX9_copy_b73 n M4 x1 x2 x3 (x4 + 1)
def pX9_copy (M : St) : Option St :=
  bn (pX9_at M 0) fun r1 =>
  if r1 ≤ (M 0 31) - (M 0 32) then
    bn (pX9_at M 4) fun r2 =>
    gd (inb r2 41) <|
    bn (pX9_at M 3) fun r3 =>
    bn (pX9_at M 2) fun r4 =>
    gd (inb r4 41) <|
    bn (pX9_at M 1) fun r5 =>
    lt (up2 M 0 32 ((M 0 32) + r1)) fun M1 =>
    pX9_copy_b73 LF M1 r1 ((M 8 (ix r2)) + r3) ((M 8 (ix r4)) + r5) 0
  else
    lt (up2 M 0 35 10) fun M2 =>
    some M2
set_option maxHeartbeats 4000000 in
set_option maxRecDepth 100000 in
theorem tX9_copy_b73 (n : Nat) {G : zG} {A : Nat → Prop} {q : Nat → Nat} (hq : zQD A 21 q) {M' : St} : ∀ {M : St} {x1 : Int32} {x2 : Int32} {x3 : Int32} {x4 : Int32} (hs : pX9_copy_b73 n M x1 x2 x3 x4 = some M') {p : Program} {l : Launch} {e : Env} {s : State} {m : MethodId} {args : Array Value} {below : List Frame} {meth : Method} {c : Code} {H : Heap} {locs : List Loc} {ls : Array Slot} (F : zFx p s m args meth c cX9_copy RX9 5 none G A) (hP : (zP G.1 21 q (eM G q) M) H) (hS : va_S A s.heap H locs) (hl : lv_has ls 5 [(0, .ref (q 0)), (1, .int x1), (2, .int x2), (3, .int x3), (4, .int x4)]), W p l e { frames := 3, cells := 0, slots := 0, locals := 61 } s m args below meth c H locs 0 0 (MQ below (va_Qv (fun (_ : Unit) => True) (fun _ U => (zP G.1 21 q (eM G q) M') U.heap) A) args s 0 0 A) (F0 m 73 ls []) := by
  induction n with
  | zero =>
    intro M x1 x2 x3 x4 hs p l e s m args below meth c H locs ls F hP hS hl
    rw [pX9_copy_b73] at hs
    cases hs
  | succ n ih =>
    intro M x1 x2 x3 x4 hs p l e s m args below meth c H locs ls F hP hS hl
    rw [pX9_copy_b73] at hs
    refine lv_iload F.1 F.2.1 dX9_copy_73 (lv_at hl 4 rfl) ?_
    refine lv_iload_n F.1 F.2.1 dX9_copy_75 rfl (lv_at hl 1 rfl) ?_
    refine lv_icmp_ge (tgt := 111) F.1 F.2.1 dX9_copy_76 (by decide) (fun c1 => ?_) (fun c1 => ?_)
    · have hs := it_t c1 hs
      refine lv_aload_n F.1 F.2.1 dX9_copy_111 rfl (lv_at hl 0 rfl) ?_
      refine lv_iconst (v := 5) F.1 F.2.1 dX9_copy_112 rfl ?_
      obtain ⟨M1, h1, hs⟩ := bn_some hs
      refine x_callV (rest := []) wv_X9_170 F hS (fun _ h => h) hS.2.1 (tX9_drop l G A q hq h1) hP (x_recv (ci := 7) F hP rfl (by decide) (eM_0 G q _)) rfl hl.1 rfl ⟨Nat.le_of_ble_eq_true rfl, Nat.le_of_ble_eq_true rfl⟩ ⟨Nat.le_refl _, Nat.le_refl _⟩ (Nat.le_of_ble_eq_true rfl) dX9_copy_113 (fun H locs hP hS _ _ => ?_)
      refine lv_aload_n F.1 F.2.1 dX9_copy_116 rfl (lv_at hl 0 rfl) ?_
      refine lv_iconst (v := 1) F.1 F.2.1 dX9_copy_117 rfl ?_
      obtain ⟨M2, h2, hs⟩ := bn_some hs
      refine x_callV (rest := []) wv_X9_167 F hS (fun _ h => h) hS.2.1 (tX9_on l G A q hq h2) hP (x_recv (ci := 7) F hP rfl (by decide) (eM_0 G q _)) rfl hl.1 rfl ⟨Nat.le_of_ble_eq_true rfl, Nat.le_of_ble_eq_true rfl⟩ ⟨Nat.le_refl _, Nat.le_refl _⟩ (Nat.le_of_ble_eq_true rfl) dX9_copy_118 (fun H locs hP hS _ _ => ?_)
      cases hs
      exact x_vret F hP hS dX9_copy_121
    have hs := it_f c1 hs
    refine lv_aload_n F.1 F.2.1 dX9_copy_79 rfl (lv_at hl 0 rfl) ?_
    obtain ⟨r1, M3, h3, hs⟩ := bn2_some hs
    refine x_callI (rest := []) wv_X9_163 F hS (fun _ h => h) hS.2.1 (tX9_writes l G A q hq h3) hP (x_recv (ci := 7) F hP rfl (by decide) (eM_0 G q _)) rfl hl.1 rfl ⟨Nat.le_of_ble_eq_true rfl, Nat.le_of_ble_eq_true rfl⟩ ⟨Nat.le_refl _, Nat.le_refl _⟩ (Nat.le_of_ble_eq_true rfl) dX9_copy_80 (fun H locs hP hS _ _ => ?_)
    refine lv_if_ne (tgt := 87) F.1 F.2.1 dX9_copy_83 (by decide) (fun c2 => ?_) (fun c2 => ?_)
    · have hs := it_f c2 hs
      refine lv_aload_n F.1 F.2.1 dX9_copy_87 rfl (lv_at hl 0 rfl) ?_
      refine gM_X9_35 F hP dX9_copy_88 ?_
      refine lv_iload_n F.1 F.2.1 dX9_copy_91 rfl (lv_at hl 3 rfl) ?_
      refine lv_iload F.1 F.2.1 dX9_copy_92 (lv_at hl 4 rfl) ?_
      refine lv_iadd F.1 F.2.1 dX9_copy_94 ?_
      refine lv_aload_n F.1 F.2.1 dX9_copy_95 rfl (lv_at hl 0 rfl) ?_
      refine gM_X9_35 F hP dX9_copy_96 ?_
      refine lv_iload_n F.1 F.2.1 dX9_copy_99 rfl (lv_at hl 2 rfl) ?_
      refine lv_iload F.1 F.2.1 dX9_copy_100 (lv_at hl 4 rfl) ?_
      refine lv_iadd F.1 F.2.1 dX9_copy_102 ?_
      obtain ⟨g1, hs⟩ := gd_some hs
      refine x_iald F hP (arM_9 G q) g1 dX9_copy_103 ?_
      obtain ⟨g2, hs⟩ := gd_some hs
      obtain ⟨M4, eM4, hs⟩ := lt_some hs
      refine x_iast F hq hP hS (arM_9 G q) g2 eM4 dX9_copy_104 (fun H locs hP hS => ?_)
      refine lv_iinc (v := x4 + 1) (lv' := [(4, .int (x4 + 1)), (0, .ref (q 0)), (1, .int x1), (2, .int x2), (3, .int x3)]) F.1 F.2.1 dX9_copy_105 hl (k := 4) rfl rfl (by decide) rfl (fun ls hl => ?_)
      refine lv_goto (tgt := 73) F.1 F.2.1 dX9_copy_108 (by decide) ?_
      exact ih hs F hP hS (lv_sub hl [1, 2, 3, 4, 0] rfl)
    have hs := it_t c2 hs
    cases hs
    exact x_vret F hP hS dX9_copy_86
set_option maxHeartbeats 4000000 in
set_option maxRecDepth 100000 in
theorem tX9_copy (l : Launch) (G : zG) (A : Nat → Prop) (q : Nat → Nat) (hq : zQD A 21 q) {M M' : St} (hs : pX9_copy M = some M') : zKV l yX9_copy cX9_copy 5 3 61 G A (zP G.1 21 q (eM G q) M) [.ref (q 0)] (zP G.1 21 q (eM G q) M') := by
  refine zKV_of (by decide) (Nat.le_of_ble_eq_true rfl) (fun p e s m args below meth c H ls F hH hP hl => ?_)
  have F : zFx p s m args meth c cX9_copy RX9 5 none G A := F
  have hS : va_S A s.heap H [] := hH ▸ va_S.rf
  have hl : lv_has ls 5 [(0, .ref (q 0))] := hl
  rw [pX9_copy] at hs
  refine lv_aload_n F.1 F.2.1 dX9_copy_0 rfl (lv_at hl 0 rfl) ?_
  refine lv_iconst (v := 0) F.1 F.2.1 dX9_copy_1 rfl ?_
  obtain ⟨r1, h1, hs⟩ := bn_some hs
  refine x_callI (rest := []) wv_X9_121 F hS (fun _ h => h) hS.2.1 (tX9_at l G A q hq h1) hP (x_recv (ci := 7) F hP rfl (by decide) (eM_0 G q _)) rfl hl.1 rfl ⟨Nat.le_of_ble_eq_true rfl, Nat.le_of_ble_eq_true rfl⟩ ⟨Nat.le_refl _, Nat.le_refl _⟩ (Nat.le_of_ble_eq_true rfl) dX9_copy_2 (fun H locs hP hS _ _ => ?_)
  refine lv_istore_n (lv' := [(1, .int r1), (0, .ref (q 0))]) F.1 F.2.1 dX9_copy_5 rfl hl (by decide) rfl (fun ls hl => ?_)
  refine lv_aload_n F.1 F.2.1 dX9_copy_6 rfl (lv_at hl 1 rfl) ?_
  refine gM_X9_173 F hP dX9_copy_7 ?_
  refine lv_aload_n F.1 F.2.1 dX9_copy_10 rfl (lv_at hl 1 rfl) ?_
  refine gM_X9_176 F hP dX9_copy_11 ?_
  refine lv_isub F.1 F.2.1 dX9_copy_14 ?_
  refine lv_iload_n F.1 F.2.1 dX9_copy_15 rfl (lv_at hl 0 rfl) ?_
  refine lv_icmp_ge (tgt := 26) F.1 F.2.1 dX9_copy_16 (by decide) (fun c1 => ?_) (fun c1 => ?_)
  · have hs := it_t c1 hs
    refine lv_aload_n F.1 F.2.1 dX9_copy_26 rfl (lv_at hl 1 rfl) ?_
    refine gM_X9_32 F hP dX9_copy_27 ?_
    refine lv_aload_n F.1 F.2.1 dX9_copy_30 rfl (lv_at hl 1 rfl) ?_
    refine lv_iconst (v := 4) F.1 F.2.1 dX9_copy_31 rfl ?_
    obtain ⟨r2, h2, hs⟩ := bn_some hs
    refine x_callI (rest := [.ref (q 8)]) wv_X9_121 F hS (fun _ h => h) hS.2.1 (tX9_at l G A q hq h2) hP (x_recv (ci := 7) F hP rfl (by decide) (eM_0 G q _)) rfl hl.1 rfl ⟨Nat.le_of_ble_eq_true rfl, Nat.le_of_ble_eq_true rfl⟩ ⟨Nat.le_refl _, Nat.le_refl _⟩ (Nat.le_of_ble_eq_true rfl) dX9_copy_32 (fun H locs hP hS _ _ => ?_)
    obtain ⟨g1, hs⟩ := gd_some hs
    refine x_iald F hP (arM_8 G q) g1 dX9_copy_35 ?_
    refine lv_aload_n F.1 F.2.1 dX9_copy_36 rfl (lv_at hl 1 rfl) ?_
    refine lv_iconst (v := 3) F.1 F.2.1 dX9_copy_37 rfl ?_
    obtain ⟨r3, h3, hs⟩ := bn_some hs
    refine x_callI (rest := [.int (M 8 (ix r2))]) wv_X9_121 F hS (fun _ h => h) hS.2.1 (tX9_at l G A q hq h3) hP (x_recv (ci := 7) F hP rfl (by decide) (eM_0 G q _)) rfl hl.1 rfl ⟨Nat.le_of_ble_eq_true rfl, Nat.le_of_ble_eq_true rfl⟩ ⟨Nat.le_refl _, Nat.le_refl _⟩ (Nat.le_of_ble_eq_true rfl) dX9_copy_38 (fun H locs hP hS _ _ => ?_)
    refine lv_iadd F.1 F.2.1 dX9_copy_41 ?_
    refine lv_istore_n (lv' := [(2, .int ((M 8 (ix r2)) + r3)), (1, .int r1), (0, .ref (q 0))]) F.1 F.2.1 dX9_copy_42 rfl hl (by decide) rfl (fun ls hl => ?_)
    refine lv_aload_n F.1 F.2.1 dX9_copy_43 rfl (lv_at hl 2 rfl) ?_
    refine gM_X9_32 F hP dX9_copy_44 ?_
    refine lv_aload_n F.1 F.2.1 dX9_copy_47 rfl (lv_at hl 2 rfl) ?_
    refine lv_iconst (v := 2) F.1 F.2.1 dX9_copy_48 rfl ?_
    obtain ⟨r4, h4, hs⟩ := bn_some hs
    refine x_callI (rest := [.ref (q 8)]) wv_X9_121 F hS (fun _ h => h) hS.2.1 (tX9_at l G A q hq h4) hP (x_recv (ci := 7) F hP rfl (by decide) (eM_0 G q _)) rfl hl.1 rfl ⟨Nat.le_of_ble_eq_true rfl, Nat.le_of_ble_eq_true rfl⟩ ⟨Nat.le_refl _, Nat.le_refl _⟩ (Nat.le_of_ble_eq_true rfl) dX9_copy_49 (fun H locs hP hS _ _ => ?_)
    obtain ⟨g2, hs⟩ := gd_some hs
    refine x_iald F hP (arM_8 G q) g2 dX9_copy_52 ?_
    refine lv_aload_n F.1 F.2.1 dX9_copy_53 rfl (lv_at hl 2 rfl) ?_
    refine lv_iconst (v := 1) F.1 F.2.1 dX9_copy_54 rfl ?_
    obtain ⟨r5, h5, hs⟩ := bn_some hs
    refine x_callI (rest := [.int (M 8 (ix r4))]) wv_X9_121 F hS (fun _ h => h) hS.2.1 (tX9_at l G A q hq h5) hP (x_recv (ci := 7) F hP rfl (by decide) (eM_0 G q _)) rfl hl.1 rfl ⟨Nat.le_of_ble_eq_true rfl, Nat.le_of_ble_eq_true rfl⟩ ⟨Nat.le_refl _, Nat.le_refl _⟩ (Nat.le_of_ble_eq_true rfl) dX9_copy_55 (fun H locs hP hS _ _ => ?_)
    refine lv_iadd F.1 F.2.1 dX9_copy_58 ?_
    refine lv_istore_n (lv' := [(3, .int ((M 8 (ix r4)) + r5)), (2, .int ((M 8 (ix r2)) + r3)), (1, .int r1), (0, .ref (q 0))]) F.1 F.2.1 dX9_copy_59 rfl hl (by decide) rfl (fun ls hl => ?_)
    refine lv_aload_n F.1 F.2.1 dX9_copy_60 rfl (lv_at hl 3 rfl) ?_
    refine lv_dup F.1 F.2.1 dX9_copy_61 rfl ?_
    refine gM_X9_176 F hP dX9_copy_62 ?_
    refine lv_iload_n F.1 F.2.1 dX9_copy_65 rfl (lv_at hl 2 rfl) ?_
    refine lv_iadd F.1 F.2.1 dX9_copy_66 ?_
    obtain ⟨M1, eM1, hs⟩ := lt_some hs
    refine hM_X9_176 F hq hP hS eM1 dX9_copy_67 (fun H locs hP hS => ?_)
    refine lv_iconst (v := 0) F.1 F.2.1 dX9_copy_70 rfl ?_
    refine lv_istore (lv' := [(4, .int 0), (3, .int ((M 8 (ix r4)) + r5)), (2, .int ((M 8 (ix r2)) + r3)), (1, .int r1), (0, .ref (q 0))]) F.1 F.2.1 dX9_copy_71 hl (by decide) rfl (fun ls hl => ?_)
    exact tX9_copy_b73 LF hq hs F hP hS (lv_sub hl [4, 3, 2, 1, 0] rfl)
  have hs := it_f c1 hs
  refine lv_aload_n F.1 F.2.1 dX9_copy_19 rfl (lv_at hl 1 rfl) ?_
  refine lv_bipush (v := 10) F.1 F.2.1 dX9_copy_20 rfl ?_
  obtain ⟨M2, eM2, hs⟩ := lt_some hs
  refine hM_X9_157 F hq hP hS eM2 dX9_copy_22 (fun H locs hP hS => ?_)
  cases hs
  exact x_vret F hP hS dX9_copy_25

def pX9_callIt_b41 : Nat → St → Int32 → Int32 → Int32 → Option St
  | 0, _, _, _, _ => none
  | n + 1, M, x2, x3, x4 =>
    if x2 ≤ x4 then
      some M
    else
      bn (pX9_top M) fun r1 =>
      gd (inb x3 8) <|
      gd (inb (((16 * x3) + (M 19 (ix x3))) + x4) 128) <|
      gd (inb ((8 * r1) + x4) 64) <|
      lt (up2 M 17 (ix ((8 * r1) + x4)) (M 18 (ix (((16 * x3) + (M 19 (ix x3))) + x4)))) fun M1 =>
      pX9_callIt_b41 n M1 x2 x3 (x4 + 1)
def pX9_callIt (M : St) : Option St :=
  bn (pX9_byteAt M 1) fun r1 =>
  bn (pX9_byteAt M 2) fun r2 =>
  bn (pX9_top M) fun r3 =>
  bn (pX9_on M 3) fun M1 =>
  bn (pX9_drop M1 (r2 - r2 / 9 * 9)) fun M2 =>
  bn (pX9_enter M2 (r1 - r1 / 16 * 16)) fun M3 =>
  pX9_callIt_b41 LF M3 (r2 - r2 / 9 * 9) r3 0
set_option maxHeartbeats 4000000 in
set_option maxRecDepth 100000 in
theorem tX9_callIt_b41 (n : Nat) {G : zG} {A : Nat → Prop} {q : Nat → Nat} (hq : zQD A 21 q) {M' : St} : ∀ {M : St} {x2 : Int32} {x3 : Int32} {x4 : Int32} (hs : pX9_callIt_b41 n M x2 x3 x4 = some M') {p : Program} {l : Launch} {e : Env} {s : State} {m : MethodId} {args : Array Value} {below : List Frame} {meth : Method} {c : Code} {H : Heap} {locs : List Loc} {ls : Array Slot} (F : zFx p s m args meth c cX9_callIt RX9 5 none G A) (hP : (zP G.1 21 q (eM G q) M) H) (hS : va_S A s.heap H locs) (hl : lv_has ls 5 [(0, .ref (q 0)), (2, .int x2), (3, .int x3), (4, .int x4)]), W p l e { frames := 3, cells := 0, slots := 0, locals := 61 } s m args below meth c H locs 0 0 (MQ below (va_Qv (fun (_ : Unit) => True) (fun _ U => (zP G.1 21 q (eM G q) M') U.heap) A) args s 0 0 A) (F0 m 41 ls []) := by
  induction n with
  | zero =>
    intro M x2 x3 x4 hs p l e s m args below meth c H locs ls F hP hS hl
    rw [pX9_callIt_b41] at hs
    cases hs
  | succ n ih =>
    intro M x2 x3 x4 hs p l e s m args below meth c H locs ls F hP hS hl
    rw [pX9_callIt_b41] at hs
    refine lv_iload F.1 F.2.1 dX9_callIt_41 (lv_at hl 3 rfl) ?_
    refine lv_iload_n F.1 F.2.1 dX9_callIt_43 rfl (lv_at hl 1 rfl) ?_
    refine lv_icmp_ge (tgt := 87) F.1 F.2.1 dX9_callIt_44 (by decide) (fun c1 => ?_) (fun c1 => ?_)
    · have hs := it_t c1 hs
      cases hs
      exact x_vret F hP hS dX9_callIt_87
    have hs := it_f c1 hs
    refine lv_aload_n F.1 F.2.1 dX9_callIt_47 rfl (lv_at hl 0 rfl) ?_
    refine gM_X9_67 F hP dX9_callIt_48 ?_
    refine lv_bipush (v := 8) F.1 F.2.1 dX9_callIt_51 rfl ?_
    refine lv_aload_n F.1 F.2.1 dX9_callIt_53 rfl (lv_at hl 0 rfl) ?_
    obtain ⟨r1, h1, hs⟩ := bn_some hs
    refine x_callI (rest := [.int 8, .ref (q 17)]) wv_X9_101 F hS (fun _ h => h) hS.2.1 (tX9_top l G A q hq h1) hP (x_recv (ci := 7) F hP rfl (by decide) (eM_0 G q _)) rfl hl.1 rfl ⟨Nat.le_of_ble_eq_true rfl, Nat.le_of_ble_eq_true rfl⟩ ⟨Nat.le_refl _, Nat.le_refl _⟩ (Nat.le_of_ble_eq_true rfl) dX9_callIt_54 (fun H locs hP hS _ _ => ?_)
    refine lv_imul F.1 F.2.1 dX9_callIt_57 ?_
    refine lv_iload F.1 F.2.1 dX9_callIt_58 (lv_at hl 3 rfl) ?_
    refine lv_iadd F.1 F.2.1 dX9_callIt_60 ?_
    refine lv_aload_n F.1 F.2.1 dX9_callIt_61 rfl (lv_at hl 0 rfl) ?_
    refine gM_X9_70 F hP dX9_callIt_62 ?_
    refine lv_bipush (v := 16) F.1 F.2.1 dX9_callIt_65 rfl ?_
    refine lv_iload_n F.1 F.2.1 dX9_callIt_67 rfl (lv_at hl 2 rfl) ?_
    refine lv_imul F.1 F.2.1 dX9_callIt_68 ?_
    refine lv_aload_n F.1 F.2.1 dX9_callIt_69 rfl (lv_at hl 0 rfl) ?_
    refine gM_X9_73 F hP dX9_callIt_70 ?_
    refine lv_iload_n F.1 F.2.1 dX9_callIt_73 rfl (lv_at hl 2 rfl) ?_
    obtain ⟨g1, hs⟩ := gd_some hs
    refine x_iald F hP (arM_19 G q) g1 dX9_callIt_74 ?_
    refine lv_iadd F.1 F.2.1 dX9_callIt_75 ?_
    refine lv_iload F.1 F.2.1 dX9_callIt_76 (lv_at hl 3 rfl) ?_
    refine lv_iadd F.1 F.2.1 dX9_callIt_78 ?_
    obtain ⟨g2, hs⟩ := gd_some hs
    refine x_iald F hP (arM_18 G q) g2 dX9_callIt_79 ?_
    obtain ⟨g3, hs⟩ := gd_some hs
    obtain ⟨M1, eM1, hs⟩ := lt_some hs
    refine x_iast F hq hP hS (arM_17 G q) g3 eM1 dX9_callIt_80 (fun H locs hP hS => ?_)
    refine lv_iinc (v := x4 + 1) (lv' := [(4, .int (x4 + 1)), (0, .ref (q 0)), (2, .int x2), (3, .int x3)]) F.1 F.2.1 dX9_callIt_81 hl (k := 3) rfl rfl (by decide) rfl (fun ls hl => ?_)
    refine lv_goto (tgt := 41) F.1 F.2.1 dX9_callIt_84 (by decide) ?_
    exact ih hs F hP hS (lv_sub hl [1, 2, 3, 0] rfl)
set_option maxHeartbeats 4000000 in
set_option maxRecDepth 100000 in
theorem tX9_callIt (l : Launch) (G : zG) (A : Nat → Prop) (q : Nat → Nat) (hq : zQD A 21 q) {M M' : St} (hs : pX9_callIt M = some M') : zKV l yX9_callIt cX9_callIt 5 3 61 G A (zP G.1 21 q (eM G q) M) [.ref (q 0)] (zP G.1 21 q (eM G q) M') := by
  refine zKV_of (by decide) (Nat.le_of_ble_eq_true rfl) (fun p e s m args below meth c H ls F hH hP hl => ?_)
  have F : zFx p s m args meth c cX9_callIt RX9 5 none G A := F
  have hS : va_S A s.heap H [] := hH ▸ va_S.rf
  have hl : lv_has ls 5 [(0, .ref (q 0))] := hl
  rw [pX9_callIt] at hs
  refine lv_aload_n F.1 F.2.1 dX9_callIt_0 rfl (lv_at hl 0 rfl) ?_
  refine lv_iconst (v := 1) F.1 F.2.1 dX9_callIt_1 rfl ?_
  obtain ⟨r1, h1, hs⟩ := bn_some hs
  refine x_callI (rest := []) wv_X9_111 F hS (fun _ h => h) hS.2.1 (tX9_byteAt l G A q hq h1) hP (x_recv (ci := 7) F hP rfl (by decide) (eM_0 G q _)) rfl hl.1 rfl ⟨Nat.le_of_ble_eq_true rfl, Nat.le_of_ble_eq_true rfl⟩ ⟨Nat.le_refl _, Nat.le_refl _⟩ (Nat.le_of_ble_eq_true rfl) dX9_callIt_2 (fun H locs hP hS _ _ => ?_)
  refine lv_bipush (v := 16) F.1 F.2.1 dX9_callIt_5 rfl ?_
  refine lv_irem F.1 F.2.1 dX9_callIt_7 (by decide) ?_
  refine lv_istore_n (lv' := [(1, .int (r1 - r1 / 16 * 16)), (0, .ref (q 0))]) F.1 F.2.1 dX9_callIt_8 rfl hl (by decide) rfl (fun ls hl => ?_)
  refine lv_aload_n F.1 F.2.1 dX9_callIt_9 rfl (lv_at hl 1 rfl) ?_
  refine lv_iconst (v := 2) F.1 F.2.1 dX9_callIt_10 rfl ?_
  obtain ⟨r2, h2, hs⟩ := bn_some hs
  refine x_callI (rest := []) wv_X9_111 F hS (fun _ h => h) hS.2.1 (tX9_byteAt l G A q hq h2) hP (x_recv (ci := 7) F hP rfl (by decide) (eM_0 G q _)) rfl hl.1 rfl ⟨Nat.le_of_ble_eq_true rfl, Nat.le_of_ble_eq_true rfl⟩ ⟨Nat.le_refl _, Nat.le_refl _⟩ (Nat.le_of_ble_eq_true rfl) dX9_callIt_11 (fun H locs hP hS _ _ => ?_)
  refine lv_bipush (v := 9) F.1 F.2.1 dX9_callIt_14 rfl ?_
  refine lv_irem F.1 F.2.1 dX9_callIt_16 (by decide) ?_
  refine lv_istore_n (lv' := [(2, .int (r2 - r2 / 9 * 9)), (1, .int (r1 - r1 / 16 * 16)), (0, .ref (q 0))]) F.1 F.2.1 dX9_callIt_17 rfl hl (by decide) rfl (fun ls hl => ?_)
  refine lv_aload_n F.1 F.2.1 dX9_callIt_18 rfl (lv_at hl 2 rfl) ?_
  obtain ⟨r3, h3, hs⟩ := bn_some hs
  refine x_callI (rest := []) wv_X9_101 F hS (fun _ h => h) hS.2.1 (tX9_top l G A q hq h3) hP (x_recv (ci := 7) F hP rfl (by decide) (eM_0 G q _)) rfl hl.1 rfl ⟨Nat.le_of_ble_eq_true rfl, Nat.le_of_ble_eq_true rfl⟩ ⟨Nat.le_refl _, Nat.le_refl _⟩ (Nat.le_of_ble_eq_true rfl) dX9_callIt_19 (fun H locs hP hS _ _ => ?_)
  refine lv_istore_n (lv' := [(3, .int r3), (2, .int (r2 - r2 / 9 * 9)), (1, .int (r1 - r1 / 16 * 16)), (0, .ref (q 0))]) F.1 F.2.1 dX9_callIt_22 rfl hl (by decide) rfl (fun ls hl => ?_)
  refine lv_aload_n F.1 F.2.1 dX9_callIt_23 rfl (lv_at hl 3 rfl) ?_
  refine lv_iconst (v := 3) F.1 F.2.1 dX9_callIt_24 rfl ?_
  obtain ⟨M1, h4, hs⟩ := bn_some hs
  refine x_callV (rest := []) wv_X9_167 F hS (fun _ h => h) hS.2.1 (tX9_on l G A q hq h4) hP (x_recv (ci := 7) F hP rfl (by decide) (eM_0 G q _)) rfl hl.1 rfl ⟨Nat.le_of_ble_eq_true rfl, Nat.le_of_ble_eq_true rfl⟩ ⟨Nat.le_refl _, Nat.le_refl _⟩ (Nat.le_of_ble_eq_true rfl) dX9_callIt_25 (fun H locs hP hS _ _ => ?_)
  refine lv_aload_n F.1 F.2.1 dX9_callIt_28 rfl (lv_at hl 3 rfl) ?_
  refine lv_iload_n F.1 F.2.1 dX9_callIt_29 rfl (lv_at hl 1 rfl) ?_
  obtain ⟨M2, h5, hs⟩ := bn_some hs
  refine x_callV (rest := []) wv_X9_170 F hS (fun _ h => h) hS.2.1 (tX9_drop l G A q hq h5) hP (x_recv (ci := 7) F hP rfl (by decide) (eM_0 G q _)) rfl hl.1 rfl ⟨Nat.le_of_ble_eq_true rfl, Nat.le_of_ble_eq_true rfl⟩ ⟨Nat.le_refl _, Nat.le_refl _⟩ (Nat.le_of_ble_eq_true rfl) dX9_callIt_30 (fun H locs hP hS _ _ => ?_)
  refine lv_aload_n F.1 F.2.1 dX9_callIt_33 rfl (lv_at hl 3 rfl) ?_
  refine lv_iload_n F.1 F.2.1 dX9_callIt_34 rfl (lv_at hl 2 rfl) ?_
  obtain ⟨M3, h6, hs⟩ := bn_some hs
  refine x_callV (rest := []) wv_X9_179 F hS (fun _ h => h) hS.2.1 (tX9_enter l G A q hq h6) hP (x_recv (ci := 7) F hP rfl (by decide) (eM_0 G q _)) rfl hl.1 rfl ⟨Nat.le_of_ble_eq_true rfl, Nat.le_of_ble_eq_true rfl⟩ ⟨Nat.le_refl _, Nat.le_refl _⟩ (Nat.le_of_ble_eq_true rfl) dX9_callIt_35 (fun H locs hP hS _ _ => ?_)
  refine lv_iconst (v := 0) F.1 F.2.1 dX9_callIt_38 rfl ?_
  refine lv_istore (lv' := [(4, .int 0), (3, .int r3), (2, .int (r2 - r2 / 9 * 9)), (1, .int (r1 - r1 / 16 * 16)), (0, .ref (q 0))]) F.1 F.2.1 dX9_callIt_39 hl (by decide) rfl (fun ls hl => ?_)
  exact tX9_callIt_b41 LF hq hs F hP hS (lv_sub hl [4, 2, 1, 0] rfl)

def pX9_leave_b13 (M : St) (x1 : Int32) (t0 : Int32) : Option St :=
  lt (up2 M 0 24 ((M 0 24) - 1)) fun M1 =>
  if M1 0 24 = 0 then
    lt (up2 M1 0 35 0) fun M5 =>
    lt (up2 M5 0 34 t0) fun M6 =>
    some M6
  else
    if x1 = 0 then
      if x1 = 0 then
        some M1
      else
        bn (pX9_put M1 t0) fun M2 =>
        some M2
    else
      bn (pX9_depth M1) fun r1 =>
      if r1 = 16 then
        bn (pX9_throwIt M1 6) fun M4 =>
        some M4
      else
        if x1 = 0 then
          some M1
        else
          bn (pX9_put M1 t0) fun M3 =>
          some M3
def pX9_leave (M : St) (x1 : Int32) : Option St :=
  if x1 = 0 then
    pX9_leave_b13 M x1 0
  else
    bn (pX9_at M 0) fun r1 =>
    pX9_leave_b13 M x1 r1
set_option maxHeartbeats 4000000 in
set_option maxRecDepth 100000 in
theorem tX9_leave_b13 {G : zG} {A : Nat → Prop} {q : Nat → Nat} (hq : zQD A 21 q) {M M' : St} {x1 : Int32} {t0 : Int32} (hs : pX9_leave_b13 M x1 t0 = some M') {p : Program} {l : Launch} {e : Env} {s : State} {m : MethodId} {args : Array Value} {below : List Frame} {meth : Method} {c : Code} {H : Heap} {locs : List Loc} {ls : Array Slot} (F : zFx p s m args meth c cX9_leave RX9 3 none G A) (hP : (zP G.1 21 q (eM G q) M) H) (hS : va_S A s.heap H locs) (hl : lv_has ls 3 [(0, .ref (q 0)), (1, .int x1)]) : W p l e { frames := 4, cells := 0, slots := 0, locals := 82 } s m args below meth c H locs 0 0 (MQ below (va_Qv (fun (_ : Unit) => True) (fun _ U => (zP G.1 21 q (eM G q) M') U.heap) A) args s 0 0 A) (F0 m 13 ls [.int t0]) := by
  rw [pX9_leave_b13] at hs
  refine lv_istore_n (lv' := [(2, .int t0), (0, .ref (q 0)), (1, .int x1)]) F.1 F.2.1 dX9_leave_13 rfl hl (by decide) rfl (fun ls hl => ?_)
  refine lv_aload_n F.1 F.2.1 dX9_leave_14 rfl (lv_at hl 1 rfl) ?_
  refine lv_dup F.1 F.2.1 dX9_leave_15 rfl ?_
  refine gM_X9_98 F hP dX9_leave_16 ?_
  refine lv_iconst (v := 1) F.1 F.2.1 dX9_leave_19 rfl ?_
  refine lv_isub F.1 F.2.1 dX9_leave_20 ?_
  obtain ⟨M1, eM1, hs⟩ := lt_some hs
  refine hM_X9_98 F hq hP hS eM1 dX9_leave_21 (fun H locs hP hS => ?_)
  refine lv_aload_n F.1 F.2.1 dX9_leave_24 rfl (lv_at hl 1 rfl) ?_
  refine gM_X9_98 F hP dX9_leave_25 ?_
  refine lv_if_ne (tgt := 44) F.1 F.2.1 dX9_leave_28 (by decide) (fun c1 => ?_) (fun c1 => ?_)
  · have hs := it_f c1 hs
    refine lv_iload_n F.1 F.2.1 dX9_leave_44 rfl (lv_at hl 2 rfl) ?_
    refine lv_if_eq (tgt := 66) F.1 F.2.1 dX9_leave_45 (by decide) (fun c2 => ?_) (fun c2 => ?_)
    · have hs := it_t c2 hs
      refine lv_iload_n F.1 F.2.1 dX9_leave_66 rfl (lv_at hl 2 rfl) ?_
      refine lv_if_eq (tgt := 75) F.1 F.2.1 dX9_leave_67 (by decide) (fun c3 => ?_) (fun c3 => ?_)
      · have hs := it_t c3 hs
        cases hs
        exact x_vret F hP hS dX9_leave_75
      have hs := it_f c3 hs
      refine lv_aload_n F.1 F.2.1 dX9_leave_70 rfl (lv_at hl 1 rfl) ?_
      refine lv_iload_n F.1 F.2.1 dX9_leave_71 rfl (lv_at hl 0 rfl) ?_
      obtain ⟨M2, h1, hs⟩ := bn_some hs
      refine x_callV (rest := []) wv_X9_153 F hS (fun _ h => h) hS.2.1 (tX9_put l G A q hq h1) hP (x_recv (ci := 7) F hP rfl (by decide) (eM_0 G q _)) rfl hl.1 rfl ⟨Nat.le_of_ble_eq_true rfl, Nat.le_of_ble_eq_true rfl⟩ ⟨Nat.le_refl _, Nat.le_refl _⟩ (Nat.le_of_ble_eq_true rfl) dX9_leave_72 (fun H locs hP hS _ _ => ?_)
      cases hs
      exact x_vret F hP hS dX9_leave_75
    have hs := it_f c2 hs
    refine lv_aload_n F.1 F.2.1 dX9_leave_48 rfl (lv_at hl 1 rfl) ?_
    obtain ⟨r1, h2, hs⟩ := bn_some hs
    refine x_callI (rest := []) wv_X9_105 F hS (fun _ h => h) hS.2.1 (tX9_depth l G A q hq h2) hP (x_recv (ci := 7) F hP rfl (by decide) (eM_0 G q _)) rfl hl.1 rfl ⟨Nat.le_of_ble_eq_true rfl, Nat.le_of_ble_eq_true rfl⟩ ⟨Nat.le_refl _, Nat.le_refl _⟩ (Nat.le_of_ble_eq_true rfl) dX9_leave_49 (fun H locs hP hS _ _ => ?_)
    refine lv_bipush (v := 16) F.1 F.2.1 dX9_leave_52 rfl ?_
    refine lv_icmp_ne (tgt := 66) F.1 F.2.1 dX9_leave_54 (by decide) (fun c4 => ?_) (fun c4 => ?_)
    · have hs := it_f c4 hs
      refine lv_iload_n F.1 F.2.1 dX9_leave_66 rfl (lv_at hl 2 rfl) ?_
      refine lv_if_eq (tgt := 75) F.1 F.2.1 dX9_leave_67 (by decide) (fun c5 => ?_) (fun c5 => ?_)
      · have hs := it_t c5 hs
        cases hs
        exact x_vret F hP hS dX9_leave_75
      have hs := it_f c5 hs
      refine lv_aload_n F.1 F.2.1 dX9_leave_70 rfl (lv_at hl 1 rfl) ?_
      refine lv_iload_n F.1 F.2.1 dX9_leave_71 rfl (lv_at hl 0 rfl) ?_
      obtain ⟨M3, h3, hs⟩ := bn_some hs
      refine x_callV (rest := []) wv_X9_153 F hS (fun _ h => h) hS.2.1 (tX9_put l G A q hq h3) hP (x_recv (ci := 7) F hP rfl (by decide) (eM_0 G q _)) rfl hl.1 rfl ⟨Nat.le_of_ble_eq_true rfl, Nat.le_of_ble_eq_true rfl⟩ ⟨Nat.le_refl _, Nat.le_refl _⟩ (Nat.le_of_ble_eq_true rfl) dX9_leave_72 (fun H locs hP hS _ _ => ?_)
      cases hs
      exact x_vret F hP hS dX9_leave_75
    have hs := it_t c4 hs
    refine lv_aload_n F.1 F.2.1 dX9_leave_57 rfl (lv_at hl 1 rfl) ?_
    refine lv_bipush (v := 6) F.1 F.2.1 dX9_leave_58 rfl ?_
    obtain ⟨M4, h4, hs⟩ := bn_some hs
    refine x_callV (rest := []) wv_X9_185 F hS (fun _ h => h) hS.2.1 (tX9_throwIt l G A q hq h4) hP (x_recv (ci := 7) F hP rfl (by decide) (eM_0 G q _)) rfl hl.1 rfl ⟨Nat.le_of_ble_eq_true rfl, Nat.le_of_ble_eq_true rfl⟩ ⟨Nat.le_refl _, Nat.le_refl _⟩ (Nat.le_of_ble_eq_true rfl) dX9_leave_60 (fun H locs hP hS _ _ => ?_)
    refine lv_goto (tgt := 75) F.1 F.2.1 dX9_leave_63 (by decide) ?_
    cases hs
    exact x_vret F hP hS dX9_leave_75
  have hs := it_t c1 hs
  refine lv_aload_n F.1 F.2.1 dX9_leave_31 rfl (lv_at hl 1 rfl) ?_
  refine lv_iconst (v := 0) F.1 F.2.1 dX9_leave_32 rfl ?_
  obtain ⟨M5, eM5, hs⟩ := lt_some hs
  refine hM_X9_157 F hq hP hS eM5 dX9_leave_33 (fun H locs hP hS => ?_)
  refine lv_aload_n F.1 F.2.1 dX9_leave_36 rfl (lv_at hl 1 rfl) ?_
  refine lv_iload_n F.1 F.2.1 dX9_leave_37 rfl (lv_at hl 0 rfl) ?_
  obtain ⟨M6, eM6, hs⟩ := lt_some hs
  refine hM_X9_182 F hq hP hS eM6 dX9_leave_38 (fun H locs hP hS => ?_)
  refine lv_goto (tgt := 75) F.1 F.2.1 dX9_leave_41 (by decide) ?_
  cases hs
  exact x_vret F hP hS dX9_leave_75
set_option maxHeartbeats 4000000 in
set_option maxRecDepth 100000 in
theorem tX9_leave (l : Launch) (G : zG) (A : Nat → Prop) (q : Nat → Nat) (hq : zQD A 21 q) {M M' : St} {x1 : Int32} (hs : pX9_leave M x1 = some M') : zKV l yX9_leave cX9_leave 3 4 82 G A (zP G.1 21 q (eM G q) M) [.ref (q 0), .int x1] (zP G.1 21 q (eM G q) M') := by
  refine zKV_of (by decide) (Nat.le_of_ble_eq_true rfl) (fun p e s m args below meth c H ls F hH hP hl => ?_)
  have F : zFx p s m args meth c cX9_leave RX9 3 none G A := F
  have hS : va_S A s.heap H [] := hH ▸ va_S.rf
  have hl : lv_has ls 3 [(0, .ref (q 0)), (1, .int x1)] := hl
  rw [pX9_leave] at hs
  refine lv_iload_n F.1 F.2.1 dX9_leave_0 rfl (lv_at hl 1 rfl) ?_
  refine lv_if_eq (tgt := 12) F.1 F.2.1 dX9_leave_1 (by decide) (fun c1 => ?_) (fun c1 => ?_)
  · have hs := it_t c1 hs
    refine lv_iconst (v := 0) F.1 F.2.1 dX9_leave_12 rfl ?_
    exact tX9_leave_b13 hq hs F hP hS (lv_sub hl [0, 1] rfl)
  have hs := it_f c1 hs
  refine lv_aload_n F.1 F.2.1 dX9_leave_4 rfl (lv_at hl 0 rfl) ?_
  refine lv_iconst (v := 0) F.1 F.2.1 dX9_leave_5 rfl ?_
  obtain ⟨r1, h1, hs⟩ := bn_some hs
  refine x_callI (rest := []) wv_X9_121 F hS (fun _ h => h) hS.2.1 (tX9_at l G A q hq h1) hP (x_recv (ci := 7) F hP rfl (by decide) (eM_0 G q _)) rfl hl.1 rfl ⟨Nat.le_of_ble_eq_true rfl, Nat.le_of_ble_eq_true rfl⟩ ⟨Nat.le_refl _, Nat.le_refl _⟩ (Nat.le_of_ble_eq_true rfl) dX9_leave_6 (fun H locs hP hS _ _ => ?_)
  refine lv_goto (tgt := 13) F.1 F.2.1 dX9_leave_9 (by decide) ?_
  exact tX9_leave_b13 hq hs F hP hS (lv_sub hl [0, 1] rfl)

def pX9_holds (x0 : Int32) (x1 : Int32) : Option Int32 :=
  if (x0).toInt < 0 ∨ 4 < (x0).toInt then
    if 0 < x1 then
      some 0
    else
      some 1
  else
  if (x0) = 0 then
    if x1 = 0 then
      some 1
    else
      some 0
  else
  if (x0) = 1 then
    if x1 = 0 then
      some 0
    else
      some 1
  else
  if (x0) = 2 then
    if 0 ≤ x1 then
      some 0
    else
      some 1
  else
  if (x0) = 3 then
    if x1 < 0 then
      some 0
    else
      some 1
  else
  if (x0) = 4 then
    if x1 ≤ 0 then
      some 0
    else
      some 1
  else
    none
set_option maxHeartbeats 4000000 in
set_option maxRecDepth 100000 in
theorem tX9_holds (l : Launch) (G : zG) (A : Nat → Prop) (P0 : Heap → Prop) {r : Int32} {x0 : Int32} {x1 : Int32} (hs : pX9_holds x0 x1 = some r) : zKI l yX9_holds cX9_holds 2 (some .boolean) 0 0 G A P0 [.int x0, .int x1] r P0 := by
  refine zKI_of (by decide) (Nat.le_of_ble_eq_true rfl) (fun p e s m args below meth c H ls F hH hP hl => ?_)
  have F : zFx p s m args meth c cX9_holds RX9 2 (some .boolean) G A := F
  have hS : va_S A s.heap H [] := hH ▸ va_S.rf
  have hl : lv_has ls 2 [(0, .int x0), (1, .int x1)] := hl
  rw [pX9_holds] at hs
  refine lv_iload_n F.1 F.2.1 dX9_holds_0 rfl (lv_at hl 0 rfl) ?_
  by_cases c1 : (x0).toInt < 0 ∨ 4 < (x0).toInt
  · have hs := it_t c1 hs
    refine lv_tableOut (tgt := 86) F.1 F.2.1 dX9_holds_1 c1 (by decide) ?_
    refine lv_iload_n F.1 F.2.1 dX9_holds_86 rfl (lv_at hl 1 rfl) ?_
    refine lv_if_gt (tgt := 94) F.1 F.2.1 dX9_holds_87 (by decide) (fun c2 => ?_) (fun c2 => ?_)
    · have hs := it_t c2 hs
      refine lv_iconst (v := 0) F.1 F.2.1 dX9_holds_94 rfl ?_
      cases hs
      exact x_iret F rfl rfl hP hS dX9_holds_95
    have hs := it_f c2 hs
    refine lv_iconst (v := 1) F.1 F.2.1 dX9_holds_90 rfl ?_
    refine lv_goto (tgt := 95) F.1 F.2.1 dX9_holds_91 (by decide) ?_
    cases hs
    exact x_iret F rfl rfl hP hS dX9_holds_95
  have hs := it_f c1 hs
  by_cases c3 : (x0) = 0
  · have hs := it_t c3 hs
    refine lv_tableIn (off := 35) (tgt := 36) F.1 F.2.1 dX9_holds_1 (by rw [c3]; decide) (by rw [c3]; decide) (by rw [c3]; rfl) (by decide) ?_
    refine lv_iload_n F.1 F.2.1 dX9_holds_36 rfl (lv_at hl 1 rfl) ?_
    refine lv_if_ne (tgt := 44) F.1 F.2.1 dX9_holds_37 (by decide) (fun c4 => ?_) (fun c4 => ?_)
    · have hs := it_f c4 hs
      refine lv_iconst (v := 0) F.1 F.2.1 dX9_holds_44 rfl ?_
      cases hs
      exact x_iret F rfl rfl hP hS dX9_holds_45
    have hs := it_t c4 hs
    refine lv_iconst (v := 1) F.1 F.2.1 dX9_holds_40 rfl ?_
    refine lv_goto (tgt := 45) F.1 F.2.1 dX9_holds_41 (by decide) ?_
    cases hs
    exact x_iret F rfl rfl hP hS dX9_holds_45
  have hs := it_f c3 hs
  by_cases c5 : (x0) = 1
  · have hs := it_t c5 hs
    refine lv_tableIn (off := 45) (tgt := 46) F.1 F.2.1 dX9_holds_1 (by rw [c5]; decide) (by rw [c5]; decide) (by rw [c5]; rfl) (by decide) ?_
    refine lv_iload_n F.1 F.2.1 dX9_holds_46 rfl (lv_at hl 1 rfl) ?_
    refine lv_if_eq (tgt := 54) F.1 F.2.1 dX9_holds_47 (by decide) (fun c6 => ?_) (fun c6 => ?_)
    · have hs := it_t c6 hs
      refine lv_iconst (v := 0) F.1 F.2.1 dX9_holds_54 rfl ?_
      cases hs
      exact x_iret F rfl rfl hP hS dX9_holds_55
    have hs := it_f c6 hs
    refine lv_iconst (v := 1) F.1 F.2.1 dX9_holds_50 rfl ?_
    refine lv_goto (tgt := 55) F.1 F.2.1 dX9_holds_51 (by decide) ?_
    cases hs
    exact x_iret F rfl rfl hP hS dX9_holds_55
  have hs := it_f c5 hs
  by_cases c7 : (x0) = 2
  · have hs := it_t c7 hs
    refine lv_tableIn (off := 55) (tgt := 56) F.1 F.2.1 dX9_holds_1 (by rw [c7]; decide) (by rw [c7]; decide) (by rw [c7]; rfl) (by decide) ?_
    refine lv_iload_n F.1 F.2.1 dX9_holds_56 rfl (lv_at hl 1 rfl) ?_
    refine lv_if_ge (tgt := 64) F.1 F.2.1 dX9_holds_57 (by decide) (fun c8 => ?_) (fun c8 => ?_)
    · have hs := it_t c8 hs
      refine lv_iconst (v := 0) F.1 F.2.1 dX9_holds_64 rfl ?_
      cases hs
      exact x_iret F rfl rfl hP hS dX9_holds_65
    have hs := it_f c8 hs
    refine lv_iconst (v := 1) F.1 F.2.1 dX9_holds_60 rfl ?_
    refine lv_goto (tgt := 65) F.1 F.2.1 dX9_holds_61 (by decide) ?_
    cases hs
    exact x_iret F rfl rfl hP hS dX9_holds_65
  have hs := it_f c7 hs
  by_cases c9 : (x0) = 3
  · have hs := it_t c9 hs
    refine lv_tableIn (off := 65) (tgt := 66) F.1 F.2.1 dX9_holds_1 (by rw [c9]; decide) (by rw [c9]; decide) (by rw [c9]; rfl) (by decide) ?_
    refine lv_iload_n F.1 F.2.1 dX9_holds_66 rfl (lv_at hl 1 rfl) ?_
    refine lv_if_lt (tgt := 74) F.1 F.2.1 dX9_holds_67 (by decide) (fun c10 => ?_) (fun c10 => ?_)
    · have hs := it_t c10 hs
      refine lv_iconst (v := 0) F.1 F.2.1 dX9_holds_74 rfl ?_
      cases hs
      exact x_iret F rfl rfl hP hS dX9_holds_75
    have hs := it_f c10 hs
    refine lv_iconst (v := 1) F.1 F.2.1 dX9_holds_70 rfl ?_
    refine lv_goto (tgt := 75) F.1 F.2.1 dX9_holds_71 (by decide) ?_
    cases hs
    exact x_iret F rfl rfl hP hS dX9_holds_75
  have hs := it_f c9 hs
  by_cases c11 : (x0) = 4
  · have hs := it_t c11 hs
    refine lv_tableIn (off := 75) (tgt := 76) F.1 F.2.1 dX9_holds_1 (by rw [c11]; decide) (by rw [c11]; decide) (by rw [c11]; rfl) (by decide) ?_
    refine lv_iload_n F.1 F.2.1 dX9_holds_76 rfl (lv_at hl 1 rfl) ?_
    refine lv_if_le (tgt := 84) F.1 F.2.1 dX9_holds_77 (by decide) (fun c12 => ?_) (fun c12 => ?_)
    · have hs := it_t c12 hs
      refine lv_iconst (v := 0) F.1 F.2.1 dX9_holds_84 rfl ?_
      cases hs
      exact x_iret F rfl rfl hP hS dX9_holds_85
    have hs := it_f c12 hs
    refine lv_iconst (v := 1) F.1 F.2.1 dX9_holds_80 rfl ?_
    refine lv_goto (tgt := 85) F.1 F.2.1 dX9_holds_81 (by decide) ?_
    cases hs
    exact x_iret F rfl rfl hP hS dX9_holds_85
  have hs := it_f c11 hs
  cases hs

def pX9_reckon (x0 : Int32) (x1 : Int32) (x2 : Int32) : Option Int32 :=
  if (x0).toInt < 6 ∨ 16 < (x0).toInt then
    some ((x1 &&& 65535) >>> ((x2 &&& 15) &&& 31))
  else
  if (x0) = 6 then
    some (x1 + x2)
  else
  if (x0) = 7 then
    some (x1 - x2)
  else
  if (x0) = 8 then
    some (x1 * x2)
  else
  if (x0) = 9 then
    gd (x2 != 0) <|
    some (x1 / x2)
  else
  if (x0) = 10 then
    gd (x2 != 0) <|
    some (x1 - x1 / x2 * x2)
  else
  if (x0) = 11 then
    some ((x1 &&& 65535) >>> ((x2 &&& 15) &&& 31))
  else
  if (x0) = 12 then
    some (x1 &&& x2)
  else
  if (x0) = 13 then
    some (x1 ||| x2)
  else
  if (x0) = 14 then
    some (x1 ^^^ x2)
  else
  if (x0) = 15 then
    some (x1 <<< ((x2 &&& 15) &&& 31))
  else
  if (x0) = 16 then
    some (x1 >>> ((x2 &&& 15) &&& 31))
  else
    none
set_option maxHeartbeats 4000000 in
set_option maxRecDepth 100000 in
theorem tX9_reckon (l : Launch) (G : zG) (A : Nat → Prop) (P0 : Heap → Prop) {r : Int32} {x0 : Int32} {x1 : Int32} {x2 : Int32} (hs : pX9_reckon x0 x1 x2 = some r) : zKI l yX9_reckon cX9_reckon 3 (some .int) 0 0 G A P0 [.int x0, .int x1, .int x2] r P0 := by
  refine zKI_of (by decide) (Nat.le_of_ble_eq_true rfl) (fun p e s m args below meth c H ls F hH hP hl => ?_)
  have F : zFx p s m args meth c cX9_reckon RX9 3 (some .int) G A := F
  have hS : va_S A s.heap H [] := hH ▸ va_S.rf
  have hl : lv_has ls 3 [(0, .int x0), (1, .int x1), (2, .int x2)] := hl
  rw [pX9_reckon] at hs
  refine lv_iload_n F.1 F.2.1 dX9_reckon_0 rfl (lv_at hl 0 rfl) ?_
  by_cases c1 : (x0).toInt < 6 ∨ 16 < (x0).toInt
  · have hs := it_t c1 hs
    refine lv_tableOut (tgt := 106) F.1 F.2.1 dX9_reckon_1 c1 (by decide) ?_
    refine lv_iload_n F.1 F.2.1 dX9_reckon_106 rfl (lv_at hl 1 rfl) ?_
    refine lv_ldc (v := 65535) F.1 F.2.1 F.2.2.2.1 (F.ws m_3_67) dX9_reckon_107 ?_
    refine lv_iand F.1 F.2.1 dX9_reckon_109 ?_
    refine lv_iload_n F.1 F.2.1 dX9_reckon_110 rfl (lv_at hl 2 rfl) ?_
    refine lv_bipush (v := 15) F.1 F.2.1 dX9_reckon_111 rfl ?_
    refine lv_iand F.1 F.2.1 dX9_reckon_113 ?_
    refine lv_ishr F.1 F.2.1 dX9_reckon_114 ?_
    cases hs
    exact x_iret F rfl rfl hP hS dX9_reckon_115
  have hs := it_f c1 hs
  by_cases c2 : (x0) = 6
  · have hs := it_t c2 hs
    refine lv_tableIn (off := 59) (tgt := 60) F.1 F.2.1 dX9_reckon_1 (by rw [c2]; decide) (by rw [c2]; decide) (by rw [c2]; rfl) (by decide) ?_
    refine lv_iload_n F.1 F.2.1 dX9_reckon_60 rfl (lv_at hl 1 rfl) ?_
    refine lv_iload_n F.1 F.2.1 dX9_reckon_61 rfl (lv_at hl 2 rfl) ?_
    refine lv_iadd F.1 F.2.1 dX9_reckon_62 ?_
    cases hs
    exact x_iret F rfl rfl hP hS dX9_reckon_63
  have hs := it_f c2 hs
  by_cases c3 : (x0) = 7
  · have hs := it_t c3 hs
    refine lv_tableIn (off := 63) (tgt := 64) F.1 F.2.1 dX9_reckon_1 (by rw [c3]; decide) (by rw [c3]; decide) (by rw [c3]; rfl) (by decide) ?_
    refine lv_iload_n F.1 F.2.1 dX9_reckon_64 rfl (lv_at hl 1 rfl) ?_
    refine lv_iload_n F.1 F.2.1 dX9_reckon_65 rfl (lv_at hl 2 rfl) ?_
    refine lv_isub F.1 F.2.1 dX9_reckon_66 ?_
    cases hs
    exact x_iret F rfl rfl hP hS dX9_reckon_67
  have hs := it_f c3 hs
  by_cases c4 : (x0) = 8
  · have hs := it_t c4 hs
    refine lv_tableIn (off := 67) (tgt := 68) F.1 F.2.1 dX9_reckon_1 (by rw [c4]; decide) (by rw [c4]; decide) (by rw [c4]; rfl) (by decide) ?_
    refine lv_iload_n F.1 F.2.1 dX9_reckon_68 rfl (lv_at hl 1 rfl) ?_
    refine lv_iload_n F.1 F.2.1 dX9_reckon_69 rfl (lv_at hl 2 rfl) ?_
    refine lv_imul F.1 F.2.1 dX9_reckon_70 ?_
    cases hs
    exact x_iret F rfl rfl hP hS dX9_reckon_71
  have hs := it_f c4 hs
  by_cases c5 : (x0) = 9
  · have hs := it_t c5 hs
    refine lv_tableIn (off := 71) (tgt := 72) F.1 F.2.1 dX9_reckon_1 (by rw [c5]; decide) (by rw [c5]; decide) (by rw [c5]; rfl) (by decide) ?_
    refine lv_iload_n F.1 F.2.1 dX9_reckon_72 rfl (lv_at hl 1 rfl) ?_
    refine lv_iload_n F.1 F.2.1 dX9_reckon_73 rfl (lv_at hl 2 rfl) ?_
    obtain ⟨g1, hs⟩ := gd_some hs
    refine lv_idiv F.1 F.2.1 dX9_reckon_74 (nz_of g1) ?_
    cases hs
    exact x_iret F rfl rfl hP hS dX9_reckon_75
  have hs := it_f c5 hs
  by_cases c6 : (x0) = 10
  · have hs := it_t c6 hs
    refine lv_tableIn (off := 75) (tgt := 76) F.1 F.2.1 dX9_reckon_1 (by rw [c6]; decide) (by rw [c6]; decide) (by rw [c6]; rfl) (by decide) ?_
    refine lv_iload_n F.1 F.2.1 dX9_reckon_76 rfl (lv_at hl 1 rfl) ?_
    refine lv_iload_n F.1 F.2.1 dX9_reckon_77 rfl (lv_at hl 2 rfl) ?_
    obtain ⟨g2, hs⟩ := gd_some hs
    refine lv_irem F.1 F.2.1 dX9_reckon_78 (nz_of g2) ?_
    cases hs
    exact x_iret F rfl rfl hP hS dX9_reckon_79
  have hs := it_f c6 hs
  by_cases c7 : (x0) = 11
  · have hs := it_t c7 hs
    refine lv_tableIn (off := 105) (tgt := 106) F.1 F.2.1 dX9_reckon_1 (by rw [c7]; decide) (by rw [c7]; decide) (by rw [c7]; rfl) (by decide) ?_
    refine lv_iload_n F.1 F.2.1 dX9_reckon_106 rfl (lv_at hl 1 rfl) ?_
    refine lv_ldc (v := 65535) F.1 F.2.1 F.2.2.2.1 (F.ws m_3_67) dX9_reckon_107 ?_
    refine lv_iand F.1 F.2.1 dX9_reckon_109 ?_
    refine lv_iload_n F.1 F.2.1 dX9_reckon_110 rfl (lv_at hl 2 rfl) ?_
    refine lv_bipush (v := 15) F.1 F.2.1 dX9_reckon_111 rfl ?_
    refine lv_iand F.1 F.2.1 dX9_reckon_113 ?_
    refine lv_ishr F.1 F.2.1 dX9_reckon_114 ?_
    cases hs
    exact x_iret F rfl rfl hP hS dX9_reckon_115
  have hs := it_f c7 hs
  by_cases c8 : (x0) = 12
  · have hs := it_t c8 hs
    refine lv_tableIn (off := 79) (tgt := 80) F.1 F.2.1 dX9_reckon_1 (by rw [c8]; decide) (by rw [c8]; decide) (by rw [c8]; rfl) (by decide) ?_
    refine lv_iload_n F.1 F.2.1 dX9_reckon_80 rfl (lv_at hl 1 rfl) ?_
    refine lv_iload_n F.1 F.2.1 dX9_reckon_81 rfl (lv_at hl 2 rfl) ?_
    refine lv_iand F.1 F.2.1 dX9_reckon_82 ?_
    cases hs
    exact x_iret F rfl rfl hP hS dX9_reckon_83
  have hs := it_f c8 hs
  by_cases c9 : (x0) = 13
  · have hs := it_t c9 hs
    refine lv_tableIn (off := 83) (tgt := 84) F.1 F.2.1 dX9_reckon_1 (by rw [c9]; decide) (by rw [c9]; decide) (by rw [c9]; rfl) (by decide) ?_
    refine lv_iload_n F.1 F.2.1 dX9_reckon_84 rfl (lv_at hl 1 rfl) ?_
    refine lv_iload_n F.1 F.2.1 dX9_reckon_85 rfl (lv_at hl 2 rfl) ?_
    refine lv_ior F.1 F.2.1 dX9_reckon_86 ?_
    cases hs
    exact x_iret F rfl rfl hP hS dX9_reckon_87
  have hs := it_f c9 hs
  by_cases c10 : (x0) = 14
  · have hs := it_t c10 hs
    refine lv_tableIn (off := 87) (tgt := 88) F.1 F.2.1 dX9_reckon_1 (by rw [c10]; decide) (by rw [c10]; decide) (by rw [c10]; rfl) (by decide) ?_
    refine lv_iload_n F.1 F.2.1 dX9_reckon_88 rfl (lv_at hl 1 rfl) ?_
    refine lv_iload_n F.1 F.2.1 dX9_reckon_89 rfl (lv_at hl 2 rfl) ?_
    refine lv_ixor F.1 F.2.1 dX9_reckon_90 ?_
    cases hs
    exact x_iret F rfl rfl hP hS dX9_reckon_91
  have hs := it_f c10 hs
  by_cases c11 : (x0) = 15
  · have hs := it_t c11 hs
    refine lv_tableIn (off := 91) (tgt := 92) F.1 F.2.1 dX9_reckon_1 (by rw [c11]; decide) (by rw [c11]; decide) (by rw [c11]; rfl) (by decide) ?_
    refine lv_iload_n F.1 F.2.1 dX9_reckon_92 rfl (lv_at hl 1 rfl) ?_
    refine lv_iload_n F.1 F.2.1 dX9_reckon_93 rfl (lv_at hl 2 rfl) ?_
    refine lv_bipush (v := 15) F.1 F.2.1 dX9_reckon_94 rfl ?_
    refine lv_iand F.1 F.2.1 dX9_reckon_96 ?_
    refine lv_ishl F.1 F.2.1 dX9_reckon_97 ?_
    cases hs
    exact x_iret F rfl rfl hP hS dX9_reckon_98
  have hs := it_f c11 hs
  by_cases c12 : (x0) = 16
  · have hs := it_t c12 hs
    refine lv_tableIn (off := 98) (tgt := 99) F.1 F.2.1 dX9_reckon_1 (by rw [c12]; decide) (by rw [c12]; decide) (by rw [c12]; rfl) (by decide) ?_
    refine lv_iload_n F.1 F.2.1 dX9_reckon_99 rfl (lv_at hl 1 rfl) ?_
    refine lv_iload_n F.1 F.2.1 dX9_reckon_100 rfl (lv_at hl 2 rfl) ?_
    refine lv_bipush (v := 15) F.1 F.2.1 dX9_reckon_101 rfl ?_
    refine lv_iand F.1 F.2.1 dX9_reckon_103 ?_
    refine lv_ishr F.1 F.2.1 dX9_reckon_104 ?_
    cases hs
    exact x_iret F rfl rfl hP hS dX9_reckon_105
  have hs := it_f c12 hs
  cases hs

def pX9_jump_b82 (M : St) (x1 : Int32) (x3 : Int32) (t0 : Int32) : Option St :=
  if x1 = 21 then
    bn (pX9_drop M 0) fun M7 =>
    if x3 = 0 then
      bn (pX9_length x1) fun r3 =>
      bn (pX9_on M7 r3) fun M8 =>
      some M8
    else
      bn (pX9_on M7 t0) fun M9 =>
      some M9
  else
    if x1 = 22 then
      bn (pX9_drop M 1) fun M4 =>
      if x3 = 0 then
        bn (pX9_length x1) fun r2 =>
        bn (pX9_on M4 r2) fun M5 =>
        some M5
      else
        bn (pX9_on M4 t0) fun M6 =>
        some M6
    else
      bn (pX9_drop M 2) fun M1 =>
      if x3 = 0 then
        bn (pX9_length x1) fun r1 =>
        bn (pX9_on M1 r1) fun M2 =>
        some M2
      else
        bn (pX9_on M1 t0) fun M3 =>
        some M3
def pX9_jump_b62 (M : St) (x1 : Int32) (t0 : Int32) : Option St :=
  if x1 = 21 then
    bn (pX9_signed M 1) fun r2 =>
    pX9_jump_b82 M x1 t0 r2
  else
    bn (pX9_signed M 2) fun r1 =>
    pX9_jump_b82 M x1 t0 r1
def pX9_jump_b57 (M : St) (x1 : Int32) : Option St :=
  pX9_jump_b62 M x1 1
def pX9_jump_b35 (M : St) (x1 : Int32) (t0 : Int32) : Option St :=
  if x1 = 21 then
    pX9_jump_b57 M x1
  else
    bn (pX9_byteAt M 1) fun r1 =>
    bn (pX9_holds (r1 - r1 / 6 * 6) t0) fun r2 =>
    if r2 = 0 then
      pX9_jump_b62 M x1 0
    else
      pX9_jump_b57 M x1
def pX9_jump (M : St) (x1 : Int32) : Option St :=
  if x1 = 21 then
    pX9_jump_b35 M x1 0
  else
    if x1 = 22 then
      bn (pX9_at M 0) fun r3 =>
      pX9_jump_b35 M x1 r3
    else
      bn (pX9_at M 1) fun r1 =>
      bn (pX9_at M 0) fun r2 =>
      pX9_jump_b35 M x1 (r1 - r2)
set_option maxHeartbeats 4000000 in
set_option maxRecDepth 100000 in
theorem tX9_jump_b82 {G : zG} {A : Nat → Prop} {q : Nat → Nat} (hq : zQD A 21 q) {M M' : St} {x1 : Int32} {x3 : Int32} {t0 : Int32} (hs : pX9_jump_b82 M x1 x3 t0 = some M') {p : Program} {l : Launch} {e : Env} {s : State} {m : MethodId} {args : Array Value} {below : List Frame} {meth : Method} {c : Code} {H : Heap} {locs : List Loc} {ls : Array Slot} (F : zFx p s m args meth c cX9_jump RX9 5 none G A) (hP : (zP G.1 21 q (eM G q) M) H) (hS : va_S A s.heap H locs) (hl : lv_has ls 5 [(0, .ref (q 0)), (1, .int x1), (3, .int x3)]) : W p l e { frames := 4, cells := 0, slots := 0, locals := 82 } s m args below meth c H locs 0 0 (MQ below (va_Qv (fun (_ : Unit) => True) (fun _ U => (zP G.1 21 q (eM G q) M') U.heap) A) args s 0 0 A) (F0 m 82 ls [.int t0]) := by
  rw [pX9_jump_b82] at hs
  refine lv_istore (lv' := [(4, .int t0), (0, .ref (q 0)), (1, .int x1), (3, .int x3)]) F.1 F.2.1 dX9_jump_82 hl (by decide) rfl (fun ls hl => ?_)
  refine lv_aload_n F.1 F.2.1 dX9_jump_84 rfl (lv_at hl 1 rfl) ?_
  refine lv_iload_n F.1 F.2.1 dX9_jump_85 rfl (lv_at hl 2 rfl) ?_
  refine lv_bipush (v := 21) F.1 F.2.1 dX9_jump_86 rfl ?_
  refine lv_icmp_ne (tgt := 95) F.1 F.2.1 dX9_jump_88 (by decide) (fun c1 => ?_) (fun c1 => ?_)
  · have hs := it_f c1 hs
    refine lv_iload_n F.1 F.2.1 dX9_jump_95 rfl (lv_at hl 2 rfl) ?_
    refine lv_bipush (v := 22) F.1 F.2.1 dX9_jump_96 rfl ?_
    refine lv_icmp_ne (tgt := 105) F.1 F.2.1 dX9_jump_98 (by decide) (fun c2 => ?_) (fun c2 => ?_)
    · have hs := it_f c2 hs
      refine lv_iconst (v := 2) F.1 F.2.1 dX9_jump_105 rfl ?_
      obtain ⟨M1, h1, hs⟩ := bn_some hs
      refine x_callV (rest := []) wv_X9_170 F hS (fun _ h => h) hS.2.1 (tX9_drop l G A q hq h1) hP (x_recv (ci := 7) F hP rfl (by decide) (eM_0 G q _)) rfl hl.1 rfl ⟨Nat.le_of_ble_eq_true rfl, Nat.le_of_ble_eq_true rfl⟩ ⟨Nat.le_refl _, Nat.le_refl _⟩ (Nat.le_of_ble_eq_true rfl) dX9_jump_106 (fun H locs hP hS _ _ => ?_)
      refine lv_aload_n F.1 F.2.1 dX9_jump_109 rfl (lv_at hl 1 rfl) ?_
      refine lv_iload_n F.1 F.2.1 dX9_jump_110 rfl (lv_at hl 3 rfl) ?_
      refine lv_if_eq (tgt := 119) F.1 F.2.1 dX9_jump_111 (by decide) (fun c3 => ?_) (fun c3 => ?_)
      · have hs := it_t c3 hs
        refine lv_iload_n F.1 F.2.1 dX9_jump_119 rfl (lv_at hl 2 rfl) ?_
        obtain ⟨r1, h2, hs⟩ := bn_some hs
        refine x_callSI (rest := [.ref (q 0)]) wv_X9_115 F hS (fun _ h => h) hS.2.1 (tX9_length l G A (zP G.1 21 q (eM G q) M1) h2) hP rfl hl.1 rfl ⟨Nat.le_of_ble_eq_true rfl, Nat.le_of_ble_eq_true rfl⟩ ⟨Nat.le_refl _, Nat.le_refl _⟩ (Nat.le_of_ble_eq_true rfl) dX9_jump_120 (fun H locs hP hS _ _ => ?_)
        obtain ⟨M2, h3, hs⟩ := bn_some hs
        refine x_callV (rest := []) wv_X9_167 F hS (fun _ h => h) hS.2.1 (tX9_on l G A q hq h3) hP (x_recv (ci := 7) F hP rfl (by decide) (eM_0 G q _)) rfl hl.1 rfl ⟨Nat.le_of_ble_eq_true rfl, Nat.le_of_ble_eq_true rfl⟩ ⟨Nat.le_refl _, Nat.le_refl _⟩ (Nat.le_of_ble_eq_true rfl) dX9_jump_123 (fun H locs hP hS _ _ => ?_)
        cases hs
        exact x_vret F hP hS dX9_jump_126
      have hs := it_f c3 hs
      refine lv_iload F.1 F.2.1 dX9_jump_114 (lv_at hl 0 rfl) ?_
      refine lv_goto (tgt := 123) F.1 F.2.1 dX9_jump_116 (by decide) ?_
      obtain ⟨M3, h4, hs⟩ := bn_some hs
      refine x_callV (rest := []) wv_X9_167 F hS (fun _ h => h) hS.2.1 (tX9_on l G A q hq h4) hP (x_recv (ci := 7) F hP rfl (by decide) (eM_0 G q _)) rfl hl.1 rfl ⟨Nat.le_of_ble_eq_true rfl, Nat.le_of_ble_eq_true rfl⟩ ⟨Nat.le_refl _, Nat.le_refl _⟩ (Nat.le_of_ble_eq_true rfl) dX9_jump_123 (fun H locs hP hS _ _ => ?_)
      cases hs
      exact x_vret F hP hS dX9_jump_126
    have hs := it_t c2 hs
    refine lv_iconst (v := 1) F.1 F.2.1 dX9_jump_101 rfl ?_
    refine lv_goto (tgt := 106) F.1 F.2.1 dX9_jump_102 (by decide) ?_
    obtain ⟨M4, h5, hs⟩ := bn_some hs
    refine x_callV (rest := []) wv_X9_170 F hS (fun _ h => h) hS.2.1 (tX9_drop l G A q hq h5) hP (x_recv (ci := 7) F hP rfl (by decide) (eM_0 G q _)) rfl hl.1 rfl ⟨Nat.le_of_ble_eq_true rfl, Nat.le_of_ble_eq_true rfl⟩ ⟨Nat.le_refl _, Nat.le_refl _⟩ (Nat.le_of_ble_eq_true rfl) dX9_jump_106 (fun H locs hP hS _ _ => ?_)
    refine lv_aload_n F.1 F.2.1 dX9_jump_109 rfl (lv_at hl 1 rfl) ?_
    refine lv_iload_n F.1 F.2.1 dX9_jump_110 rfl (lv_at hl 3 rfl) ?_
    refine lv_if_eq (tgt := 119) F.1 F.2.1 dX9_jump_111 (by decide) (fun c4 => ?_) (fun c4 => ?_)
    · have hs := it_t c4 hs
      refine lv_iload_n F.1 F.2.1 dX9_jump_119 rfl (lv_at hl 2 rfl) ?_
      obtain ⟨r2, h6, hs⟩ := bn_some hs
      refine x_callSI (rest := [.ref (q 0)]) wv_X9_115 F hS (fun _ h => h) hS.2.1 (tX9_length l G A (zP G.1 21 q (eM G q) M4) h6) hP rfl hl.1 rfl ⟨Nat.le_of_ble_eq_true rfl, Nat.le_of_ble_eq_true rfl⟩ ⟨Nat.le_refl _, Nat.le_refl _⟩ (Nat.le_of_ble_eq_true rfl) dX9_jump_120 (fun H locs hP hS _ _ => ?_)
      obtain ⟨M5, h7, hs⟩ := bn_some hs
      refine x_callV (rest := []) wv_X9_167 F hS (fun _ h => h) hS.2.1 (tX9_on l G A q hq h7) hP (x_recv (ci := 7) F hP rfl (by decide) (eM_0 G q _)) rfl hl.1 rfl ⟨Nat.le_of_ble_eq_true rfl, Nat.le_of_ble_eq_true rfl⟩ ⟨Nat.le_refl _, Nat.le_refl _⟩ (Nat.le_of_ble_eq_true rfl) dX9_jump_123 (fun H locs hP hS _ _ => ?_)
      cases hs
      exact x_vret F hP hS dX9_jump_126
    have hs := it_f c4 hs
    refine lv_iload F.1 F.2.1 dX9_jump_114 (lv_at hl 0 rfl) ?_
    refine lv_goto (tgt := 123) F.1 F.2.1 dX9_jump_116 (by decide) ?_
    obtain ⟨M6, h8, hs⟩ := bn_some hs
    refine x_callV (rest := []) wv_X9_167 F hS (fun _ h => h) hS.2.1 (tX9_on l G A q hq h8) hP (x_recv (ci := 7) F hP rfl (by decide) (eM_0 G q _)) rfl hl.1 rfl ⟨Nat.le_of_ble_eq_true rfl, Nat.le_of_ble_eq_true rfl⟩ ⟨Nat.le_refl _, Nat.le_refl _⟩ (Nat.le_of_ble_eq_true rfl) dX9_jump_123 (fun H locs hP hS _ _ => ?_)
    cases hs
    exact x_vret F hP hS dX9_jump_126
  have hs := it_t c1 hs
  refine lv_iconst (v := 0) F.1 F.2.1 dX9_jump_91 rfl ?_
  refine lv_goto (tgt := 106) F.1 F.2.1 dX9_jump_92 (by decide) ?_
  obtain ⟨M7, h9, hs⟩ := bn_some hs
  refine x_callV (rest := []) wv_X9_170 F hS (fun _ h => h) hS.2.1 (tX9_drop l G A q hq h9) hP (x_recv (ci := 7) F hP rfl (by decide) (eM_0 G q _)) rfl hl.1 rfl ⟨Nat.le_of_ble_eq_true rfl, Nat.le_of_ble_eq_true rfl⟩ ⟨Nat.le_refl _, Nat.le_refl _⟩ (Nat.le_of_ble_eq_true rfl) dX9_jump_106 (fun H locs hP hS _ _ => ?_)
  refine lv_aload_n F.1 F.2.1 dX9_jump_109 rfl (lv_at hl 1 rfl) ?_
  refine lv_iload_n F.1 F.2.1 dX9_jump_110 rfl (lv_at hl 3 rfl) ?_
  refine lv_if_eq (tgt := 119) F.1 F.2.1 dX9_jump_111 (by decide) (fun c5 => ?_) (fun c5 => ?_)
  · have hs := it_t c5 hs
    refine lv_iload_n F.1 F.2.1 dX9_jump_119 rfl (lv_at hl 2 rfl) ?_
    obtain ⟨r3, h10, hs⟩ := bn_some hs
    refine x_callSI (rest := [.ref (q 0)]) wv_X9_115 F hS (fun _ h => h) hS.2.1 (tX9_length l G A (zP G.1 21 q (eM G q) M7) h10) hP rfl hl.1 rfl ⟨Nat.le_of_ble_eq_true rfl, Nat.le_of_ble_eq_true rfl⟩ ⟨Nat.le_refl _, Nat.le_refl _⟩ (Nat.le_of_ble_eq_true rfl) dX9_jump_120 (fun H locs hP hS _ _ => ?_)
    obtain ⟨M8, h11, hs⟩ := bn_some hs
    refine x_callV (rest := []) wv_X9_167 F hS (fun _ h => h) hS.2.1 (tX9_on l G A q hq h11) hP (x_recv (ci := 7) F hP rfl (by decide) (eM_0 G q _)) rfl hl.1 rfl ⟨Nat.le_of_ble_eq_true rfl, Nat.le_of_ble_eq_true rfl⟩ ⟨Nat.le_refl _, Nat.le_refl _⟩ (Nat.le_of_ble_eq_true rfl) dX9_jump_123 (fun H locs hP hS _ _ => ?_)
    cases hs
    exact x_vret F hP hS dX9_jump_126
  have hs := it_f c5 hs
  refine lv_iload F.1 F.2.1 dX9_jump_114 (lv_at hl 0 rfl) ?_
  refine lv_goto (tgt := 123) F.1 F.2.1 dX9_jump_116 (by decide) ?_
  obtain ⟨M9, h12, hs⟩ := bn_some hs
  refine x_callV (rest := []) wv_X9_167 F hS (fun _ h => h) hS.2.1 (tX9_on l G A q hq h12) hP (x_recv (ci := 7) F hP rfl (by decide) (eM_0 G q _)) rfl hl.1 rfl ⟨Nat.le_of_ble_eq_true rfl, Nat.le_of_ble_eq_true rfl⟩ ⟨Nat.le_refl _, Nat.le_refl _⟩ (Nat.le_of_ble_eq_true rfl) dX9_jump_123 (fun H locs hP hS _ _ => ?_)
  cases hs
  exact x_vret F hP hS dX9_jump_126
set_option maxHeartbeats 4000000 in
set_option maxRecDepth 100000 in
theorem tX9_jump_b62 {G : zG} {A : Nat → Prop} {q : Nat → Nat} (hq : zQD A 21 q) {M M' : St} {x1 : Int32} {t0 : Int32} (hs : pX9_jump_b62 M x1 t0 = some M') {p : Program} {l : Launch} {e : Env} {s : State} {m : MethodId} {args : Array Value} {below : List Frame} {meth : Method} {c : Code} {H : Heap} {locs : List Loc} {ls : Array Slot} (F : zFx p s m args meth c cX9_jump RX9 5 none G A) (hP : (zP G.1 21 q (eM G q) M) H) (hS : va_S A s.heap H locs) (hl : lv_has ls 5 [(0, .ref (q 0)), (1, .int x1)]) : W p l e { frames := 4, cells := 0, slots := 0, locals := 82 } s m args below meth c H locs 0 0 (MQ below (va_Qv (fun (_ : Unit) => True) (fun _ U => (zP G.1 21 q (eM G q) M') U.heap) A) args s 0 0 A) (F0 m 62 ls [.int t0]) := by
  rw [pX9_jump_b62] at hs
  refine lv_istore_n (lv' := [(3, .int t0), (0, .ref (q 0)), (1, .int x1)]) F.1 F.2.1 dX9_jump_62 rfl hl (by decide) rfl (fun ls hl => ?_)
  refine lv_iload_n F.1 F.2.1 dX9_jump_63 rfl (lv_at hl 2 rfl) ?_
  refine lv_bipush (v := 21) F.1 F.2.1 dX9_jump_64 rfl ?_
  refine lv_icmp_ne (tgt := 77) F.1 F.2.1 dX9_jump_66 (by decide) (fun c1 => ?_) (fun c1 => ?_)
  · have hs := it_f c1 hs
    refine lv_aload_n F.1 F.2.1 dX9_jump_77 rfl (lv_at hl 1 rfl) ?_
    refine lv_iconst (v := 2) F.1 F.2.1 dX9_jump_78 rfl ?_
    obtain ⟨r1, h1, hs⟩ := bn_some hs
    refine x_callI (rest := []) wv_X9_193 F hS (fun _ h => h) hS.2.1 (tX9_signed l G A q hq h1) hP (x_recv (ci := 7) F hP rfl (by decide) (eM_0 G q _)) rfl hl.1 rfl ⟨Nat.le_of_ble_eq_true rfl, Nat.le_of_ble_eq_true rfl⟩ ⟨Nat.le_refl _, Nat.le_refl _⟩ (Nat.le_of_ble_eq_true rfl) dX9_jump_79 (fun H locs hP hS _ _ => ?_)
    exact tX9_jump_b82 hq hs F hP hS (lv_sub hl [1, 2, 0] rfl)
  have hs := it_t c1 hs
  refine lv_aload_n F.1 F.2.1 dX9_jump_69 rfl (lv_at hl 1 rfl) ?_
  refine lv_iconst (v := 1) F.1 F.2.1 dX9_jump_70 rfl ?_
  obtain ⟨r2, h2, hs⟩ := bn_some hs
  refine x_callI (rest := []) wv_X9_193 F hS (fun _ h => h) hS.2.1 (tX9_signed l G A q hq h2) hP (x_recv (ci := 7) F hP rfl (by decide) (eM_0 G q _)) rfl hl.1 rfl ⟨Nat.le_of_ble_eq_true rfl, Nat.le_of_ble_eq_true rfl⟩ ⟨Nat.le_refl _, Nat.le_refl _⟩ (Nat.le_of_ble_eq_true rfl) dX9_jump_71 (fun H locs hP hS _ _ => ?_)
  refine lv_goto (tgt := 82) F.1 F.2.1 dX9_jump_74 (by decide) ?_
  exact tX9_jump_b82 hq hs F hP hS (lv_sub hl [1, 2, 0] rfl)
set_option maxHeartbeats 4000000 in
set_option maxRecDepth 100000 in
theorem tX9_jump_b57 {G : zG} {A : Nat → Prop} {q : Nat → Nat} (hq : zQD A 21 q) {M M' : St} {x1 : Int32} (hs : pX9_jump_b57 M x1 = some M') {p : Program} {l : Launch} {e : Env} {s : State} {m : MethodId} {args : Array Value} {below : List Frame} {meth : Method} {c : Code} {H : Heap} {locs : List Loc} {ls : Array Slot} (F : zFx p s m args meth c cX9_jump RX9 5 none G A) (hP : (zP G.1 21 q (eM G q) M) H) (hS : va_S A s.heap H locs) (hl : lv_has ls 5 [(0, .ref (q 0)), (1, .int x1)]) : W p l e { frames := 4, cells := 0, slots := 0, locals := 82 } s m args below meth c H locs 0 0 (MQ below (va_Qv (fun (_ : Unit) => True) (fun _ U => (zP G.1 21 q (eM G q) M') U.heap) A) args s 0 0 A) (F0 m 57 ls []) := by
  rw [pX9_jump_b57] at hs
  refine lv_iconst (v := 1) F.1 F.2.1 dX9_jump_57 rfl ?_
  refine lv_goto (tgt := 62) F.1 F.2.1 dX9_jump_58 (by decide) ?_
  exact tX9_jump_b62 hq hs F hP hS (lv_sub hl [0, 1] rfl)
set_option maxHeartbeats 4000000 in
set_option maxRecDepth 100000 in
theorem tX9_jump_b35 {G : zG} {A : Nat → Prop} {q : Nat → Nat} (hq : zQD A 21 q) {M M' : St} {x1 : Int32} {t0 : Int32} (hs : pX9_jump_b35 M x1 t0 = some M') {p : Program} {l : Launch} {e : Env} {s : State} {m : MethodId} {args : Array Value} {below : List Frame} {meth : Method} {c : Code} {H : Heap} {locs : List Loc} {ls : Array Slot} (F : zFx p s m args meth c cX9_jump RX9 5 none G A) (hP : (zP G.1 21 q (eM G q) M) H) (hS : va_S A s.heap H locs) (hl : lv_has ls 5 [(0, .ref (q 0)), (1, .int x1)]) : W p l e { frames := 4, cells := 0, slots := 0, locals := 82 } s m args below meth c H locs 0 0 (MQ below (va_Qv (fun (_ : Unit) => True) (fun _ U => (zP G.1 21 q (eM G q) M') U.heap) A) args s 0 0 A) (F0 m 35 ls [.int t0]) := by
  rw [pX9_jump_b35] at hs
  refine lv_istore_n (lv' := [(2, .int t0), (0, .ref (q 0)), (1, .int x1)]) F.1 F.2.1 dX9_jump_35 rfl hl (by decide) rfl (fun ls hl => ?_)
  refine lv_iload_n F.1 F.2.1 dX9_jump_36 rfl (lv_at hl 2 rfl) ?_
  refine lv_bipush (v := 21) F.1 F.2.1 dX9_jump_37 rfl ?_
  refine lv_icmp_eq (tgt := 57) F.1 F.2.1 dX9_jump_39 (by decide) (fun c1 => ?_) (fun c1 => ?_)
  · have hs := it_t c1 hs
    exact tX9_jump_b57 hq hs F hP hS (lv_sub hl [1, 2] rfl)
  have hs := it_f c1 hs
  refine lv_aload_n F.1 F.2.1 dX9_jump_42 rfl (lv_at hl 1 rfl) ?_
  refine lv_iconst (v := 1) F.1 F.2.1 dX9_jump_43 rfl ?_
  obtain ⟨r1, h1, hs⟩ := bn_some hs
  refine x_callI (rest := []) wv_X9_111 F hS (fun _ h => h) hS.2.1 (tX9_byteAt l G A q hq h1) hP (x_recv (ci := 7) F hP rfl (by decide) (eM_0 G q _)) rfl hl.1 rfl ⟨Nat.le_of_ble_eq_true rfl, Nat.le_of_ble_eq_true rfl⟩ ⟨Nat.le_refl _, Nat.le_refl _⟩ (Nat.le_of_ble_eq_true rfl) dX9_jump_44 (fun H locs hP hS _ _ => ?_)
  refine lv_bipush (v := 6) F.1 F.2.1 dX9_jump_47 rfl ?_
  refine lv_irem F.1 F.2.1 dX9_jump_49 (by decide) ?_
  refine lv_iload_n F.1 F.2.1 dX9_jump_50 rfl (lv_at hl 0 rfl) ?_
  obtain ⟨r2, h2, hs⟩ := bn_some hs
  refine x_callSI (rest := []) wv_X9_189 F hS (fun _ h => h) hS.2.1 (tX9_holds l G A (zP G.1 21 q (eM G q) M) h2) hP rfl hl.1 rfl ⟨Nat.le_of_ble_eq_true rfl, Nat.le_of_ble_eq_true rfl⟩ ⟨Nat.le_refl _, Nat.le_refl _⟩ (Nat.le_of_ble_eq_true rfl) dX9_jump_51 (fun H locs hP hS _ _ => ?_)
  refine lv_if_eq (tgt := 61) F.1 F.2.1 dX9_jump_54 (by decide) (fun c2 => ?_) (fun c2 => ?_)
  · have hs := it_t c2 hs
    refine lv_iconst (v := 0) F.1 F.2.1 dX9_jump_61 rfl ?_
    exact tX9_jump_b62 hq hs F hP hS (lv_sub hl [1, 2] rfl)
  have hs := it_f c2 hs
  exact tX9_jump_b57 hq hs F hP hS (lv_sub hl [1, 2] rfl)
set_option maxHeartbeats 4000000 in
set_option maxRecDepth 100000 in
theorem tX9_jump (l : Launch) (G : zG) (A : Nat → Prop) (q : Nat → Nat) (hq : zQD A 21 q) {M M' : St} {x1 : Int32} (hs : pX9_jump M x1 = some M') : zKV l yX9_jump cX9_jump 5 4 82 G A (zP G.1 21 q (eM G q) M) [.ref (q 0), .int x1] (zP G.1 21 q (eM G q) M') := by
  refine zKV_of (by decide) (Nat.le_of_ble_eq_true rfl) (fun p e s m args below meth c H ls F hH hP hl => ?_)
  have F : zFx p s m args meth c cX9_jump RX9 5 none G A := F
  have hS : va_S A s.heap H [] := hH ▸ va_S.rf
  have hl : lv_has ls 5 [(0, .ref (q 0)), (1, .int x1)] := hl
  rw [pX9_jump] at hs
  refine lv_iload_n F.1 F.2.1 dX9_jump_0 rfl (lv_at hl 1 rfl) ?_
  refine lv_bipush (v := 21) F.1 F.2.1 dX9_jump_1 rfl ?_
  refine lv_icmp_ne (tgt := 10) F.1 F.2.1 dX9_jump_3 (by decide) (fun c1 => ?_) (fun c1 => ?_)
  · have hs := it_f c1 hs
    refine lv_iload_n F.1 F.2.1 dX9_jump_10 rfl (lv_at hl 1 rfl) ?_
    refine lv_bipush (v := 22) F.1 F.2.1 dX9_jump_11 rfl ?_
    refine lv_icmp_ne (tgt := 24) F.1 F.2.1 dX9_jump_13 (by decide) (fun c2 => ?_) (fun c2 => ?_)
    · have hs := it_f c2 hs
      refine lv_aload_n F.1 F.2.1 dX9_jump_24 rfl (lv_at hl 0 rfl) ?_
      refine lv_iconst (v := 1) F.1 F.2.1 dX9_jump_25 rfl ?_
      obtain ⟨r1, h1, hs⟩ := bn_some hs
      refine x_callI (rest := []) wv_X9_121 F hS (fun _ h => h) hS.2.1 (tX9_at l G A q hq h1) hP (x_recv (ci := 7) F hP rfl (by decide) (eM_0 G q _)) rfl hl.1 rfl ⟨Nat.le_of_ble_eq_true rfl, Nat.le_of_ble_eq_true rfl⟩ ⟨Nat.le_refl _, Nat.le_refl _⟩ (Nat.le_of_ble_eq_true rfl) dX9_jump_26 (fun H locs hP hS _ _ => ?_)
      refine lv_aload_n F.1 F.2.1 dX9_jump_29 rfl (lv_at hl 0 rfl) ?_
      refine lv_iconst (v := 0) F.1 F.2.1 dX9_jump_30 rfl ?_
      obtain ⟨r2, h2, hs⟩ := bn_some hs
      refine x_callI (rest := [.int r1]) wv_X9_121 F hS (fun _ h => h) hS.2.1 (tX9_at l G A q hq h2) hP (x_recv (ci := 7) F hP rfl (by decide) (eM_0 G q _)) rfl hl.1 rfl ⟨Nat.le_of_ble_eq_true rfl, Nat.le_of_ble_eq_true rfl⟩ ⟨Nat.le_refl _, Nat.le_refl _⟩ (Nat.le_of_ble_eq_true rfl) dX9_jump_31 (fun H locs hP hS _ _ => ?_)
      refine lv_isub F.1 F.2.1 dX9_jump_34 ?_
      exact tX9_jump_b35 hq hs F hP hS (lv_sub hl [0, 1] rfl)
    have hs := it_t c2 hs
    refine lv_aload_n F.1 F.2.1 dX9_jump_16 rfl (lv_at hl 0 rfl) ?_
    refine lv_iconst (v := 0) F.1 F.2.1 dX9_jump_17 rfl ?_
    obtain ⟨r3, h3, hs⟩ := bn_some hs
    refine x_callI (rest := []) wv_X9_121 F hS (fun _ h => h) hS.2.1 (tX9_at l G A q hq h3) hP (x_recv (ci := 7) F hP rfl (by decide) (eM_0 G q _)) rfl hl.1 rfl ⟨Nat.le_of_ble_eq_true rfl, Nat.le_of_ble_eq_true rfl⟩ ⟨Nat.le_refl _, Nat.le_refl _⟩ (Nat.le_of_ble_eq_true rfl) dX9_jump_18 (fun H locs hP hS _ _ => ?_)
    refine lv_goto (tgt := 35) F.1 F.2.1 dX9_jump_21 (by decide) ?_
    exact tX9_jump_b35 hq hs F hP hS (lv_sub hl [0, 1] rfl)
  have hs := it_t c1 hs
  refine lv_iconst (v := 0) F.1 F.2.1 dX9_jump_6 rfl ?_
  refine lv_goto (tgt := 35) F.1 F.2.1 dX9_jump_7 (by decide) ?_
  exact tX9_jump_b35 hq hs F hP hS (lv_sub hl [0, 1] rfl)

def pX9_local (M : St) (x1 : Int32) : Option St :=
  bn (pX9_top M) fun r1 =>
  bn (pX9_byteAt M 1) fun r2 =>
  if x1 = 3 then
    gd (inb ((8 * r1) + (r2 - r2 / 8 * 8)) 64) <|
    bn (pX9_put M (M 17 (ix ((8 * r1) + (r2 - r2 / 8 * 8))))) fun M6 =>
    bn (pX9_length x1) fun r7 =>
    bn (pX9_on M6 r7) fun M7 =>
    some M7
  else
    if x1 = 4 then
      bn (pX9_at M 0) fun r5 =>
      gd (inb ((8 * r1) + (r2 - r2 / 8 * 8)) 64) <|
      lt (up2 M 17 (ix ((8 * r1) + (r2 - r2 / 8 * 8))) r5) fun M3 =>
      bn (pX9_drop M3 1) fun M4 =>
      bn (pX9_length x1) fun r6 =>
      bn (pX9_on M4 r6) fun M5 =>
      some M5
    else
      gd (inb ((8 * r1) + (r2 - r2 / 8 * 8)) 64) <|
      bn (pX9_signed M 2) fun r3 =>
      gd (inb ((8 * r1) + (r2 - r2 / 8 * 8)) 64) <|
      lt (up2 M 17 (ix ((8 * r1) + (r2 - r2 / 8 * 8))) (((M 17 (ix ((8 * r1) + (r2 - r2 / 8 * 8)))) + r3).toInt16.toInt32)) fun M1 =>
      bn (pX9_length x1) fun r4 =>
      bn (pX9_on M1 r4) fun M2 =>
      some M2
set_option maxHeartbeats 4000000 in
set_option maxRecDepth 100000 in
theorem tX9_local (l : Launch) (G : zG) (A : Nat → Prop) (q : Nat → Nat) (hq : zQD A 21 q) {M M' : St} {x1 : Int32} (hs : pX9_local M x1 = some M') : zKV l yX9_local cX9_local 3 4 82 G A (zP G.1 21 q (eM G q) M) [.ref (q 0), .int x1] (zP G.1 21 q (eM G q) M') := by
  refine zKV_of (by decide) (Nat.le_of_ble_eq_true rfl) (fun p e s m args below meth c H ls F hH hP hl => ?_)
  have F : zFx p s m args meth c cX9_local RX9 3 none G A := F
  have hS : va_S A s.heap H [] := hH ▸ va_S.rf
  have hl : lv_has ls 3 [(0, .ref (q 0)), (1, .int x1)] := hl
  rw [pX9_local] at hs
  refine lv_bipush (v := 8) F.1 F.2.1 dX9_local_0 rfl ?_
  refine lv_aload_n F.1 F.2.1 dX9_local_2 rfl (lv_at hl 0 rfl) ?_
  obtain ⟨r1, h1, hs⟩ := bn_some hs
  refine x_callI (rest := [.int 8]) wv_X9_101 F hS (fun _ h => h) hS.2.1 (tX9_top l G A q hq h1) hP (x_recv (ci := 7) F hP rfl (by decide) (eM_0 G q _)) rfl hl.1 rfl ⟨Nat.le_of_ble_eq_true rfl, Nat.le_of_ble_eq_true rfl⟩ ⟨Nat.le_refl _, Nat.le_refl _⟩ (Nat.le_of_ble_eq_true rfl) dX9_local_3 (fun H locs hP hS _ _ => ?_)
  refine lv_imul F.1 F.2.1 dX9_local_6 ?_
  refine lv_aload_n F.1 F.2.1 dX9_local_7 rfl (lv_at hl 0 rfl) ?_
  refine lv_iconst (v := 1) F.1 F.2.1 dX9_local_8 rfl ?_
  obtain ⟨r2, h2, hs⟩ := bn_some hs
  refine x_callI (rest := [.int (8 * r1)]) wv_X9_111 F hS (fun _ h => h) hS.2.1 (tX9_byteAt l G A q hq h2) hP (x_recv (ci := 7) F hP rfl (by decide) (eM_0 G q _)) rfl hl.1 rfl ⟨Nat.le_of_ble_eq_true rfl, Nat.le_of_ble_eq_true rfl⟩ ⟨Nat.le_refl _, Nat.le_refl _⟩ (Nat.le_of_ble_eq_true rfl) dX9_local_9 (fun H locs hP hS _ _ => ?_)
  refine lv_bipush (v := 8) F.1 F.2.1 dX9_local_12 rfl ?_
  refine lv_irem F.1 F.2.1 dX9_local_14 (by decide) ?_
  refine lv_iadd F.1 F.2.1 dX9_local_15 ?_
  refine lv_istore_n (lv' := [(2, .int ((8 * r1) + (r2 - r2 / 8 * 8))), (0, .ref (q 0)), (1, .int x1)]) F.1 F.2.1 dX9_local_16 rfl hl (by decide) rfl (fun ls hl => ?_)
  refine lv_iload_n F.1 F.2.1 dX9_local_17 rfl (lv_at hl 2 rfl) ?_
  refine lv_iconst (v := 3) F.1 F.2.1 dX9_local_18 rfl ?_
  refine lv_icmp_ne (tgt := 35) F.1 F.2.1 dX9_local_19 (by decide) (fun c1 => ?_) (fun c1 => ?_)
  · have hs := it_f c1 hs
    refine lv_iload_n F.1 F.2.1 dX9_local_35 rfl (lv_at hl 2 rfl) ?_
    refine lv_iconst (v := 4) F.1 F.2.1 dX9_local_36 rfl ?_
    refine lv_icmp_ne (tgt := 59) F.1 F.2.1 dX9_local_37 (by decide) (fun c2 => ?_) (fun c2 => ?_)
    · have hs := it_f c2 hs
      refine lv_aload_n F.1 F.2.1 dX9_local_59 rfl (lv_at hl 1 rfl) ?_
      refine gM_X9_67 F hP dX9_local_60 ?_
      refine lv_iload_n F.1 F.2.1 dX9_local_63 rfl (lv_at hl 0 rfl) ?_
      refine lv_aload_n F.1 F.2.1 dX9_local_64 rfl (lv_at hl 1 rfl) ?_
      refine gM_X9_67 F hP dX9_local_65 ?_
      refine lv_iload_n F.1 F.2.1 dX9_local_68 rfl (lv_at hl 0 rfl) ?_
      obtain ⟨g1, hs⟩ := gd_some hs
      refine x_iald F hP (arM_17 G q) g1 dX9_local_69 ?_
      refine lv_aload_n F.1 F.2.1 dX9_local_70 rfl (lv_at hl 1 rfl) ?_
      refine lv_iconst (v := 2) F.1 F.2.1 dX9_local_71 rfl ?_
      obtain ⟨r3, h3, hs⟩ := bn_some hs
      refine x_callI (rest := [.int (M 17 (ix ((8 * r1) + (r2 - r2 / 8 * 8)))), .int ((8 * r1) + (r2 - r2 / 8 * 8)), .ref (q 17)]) wv_X9_193 F hS (fun _ h => h) hS.2.1 (tX9_signed l G A q hq h3) hP (x_recv (ci := 7) F hP rfl (by decide) (eM_0 G q _)) rfl hl.1 rfl ⟨Nat.le_of_ble_eq_true rfl, Nat.le_of_ble_eq_true rfl⟩ ⟨Nat.le_refl _, Nat.le_refl _⟩ (Nat.le_of_ble_eq_true rfl) dX9_local_72 (fun H locs hP hS _ _ => ?_)
      refine lv_iadd F.1 F.2.1 dX9_local_75 ?_
      refine lv_i2s F.1 F.2.1 dX9_local_76 rfl ?_
      obtain ⟨g2, hs⟩ := gd_some hs
      obtain ⟨M1, eM1, hs⟩ := lt_some hs
      refine x_iast F hq hP hS (arM_17 G q) g2 eM1 dX9_local_77 (fun H locs hP hS => ?_)
      refine lv_aload_n F.1 F.2.1 dX9_local_78 rfl (lv_at hl 1 rfl) ?_
      refine lv_iload_n F.1 F.2.1 dX9_local_79 rfl (lv_at hl 2 rfl) ?_
      obtain ⟨r4, h4, hs⟩ := bn_some hs
      refine x_callSI (rest := [.ref (q 0)]) wv_X9_115 F hS (fun _ h => h) hS.2.1 (tX9_length l G A (zP G.1 21 q (eM G q) M1) h4) hP rfl hl.1 rfl ⟨Nat.le_of_ble_eq_true rfl, Nat.le_of_ble_eq_true rfl⟩ ⟨Nat.le_refl _, Nat.le_refl _⟩ (Nat.le_of_ble_eq_true rfl) dX9_local_80 (fun H locs hP hS _ _ => ?_)
      obtain ⟨M2, h5, hs⟩ := bn_some hs
      refine x_callV (rest := []) wv_X9_167 F hS (fun _ h => h) hS.2.1 (tX9_on l G A q hq h5) hP (x_recv (ci := 7) F hP rfl (by decide) (eM_0 G q _)) rfl hl.1 rfl ⟨Nat.le_of_ble_eq_true rfl, Nat.le_of_ble_eq_true rfl⟩ ⟨Nat.le_refl _, Nat.le_refl _⟩ (Nat.le_of_ble_eq_true rfl) dX9_local_83 (fun H locs hP hS _ _ => ?_)
      cases hs
      exact x_vret F hP hS dX9_local_86
    have hs := it_t c2 hs
    refine lv_aload_n F.1 F.2.1 dX9_local_40 rfl (lv_at hl 1 rfl) ?_
    refine gM_X9_67 F hP dX9_local_41 ?_
    refine lv_iload_n F.1 F.2.1 dX9_local_44 rfl (lv_at hl 0 rfl) ?_
    refine lv_aload_n F.1 F.2.1 dX9_local_45 rfl (lv_at hl 1 rfl) ?_
    refine lv_iconst (v := 0) F.1 F.2.1 dX9_local_46 rfl ?_
    obtain ⟨r5, h6, hs⟩ := bn_some hs
    refine x_callI (rest := [.int ((8 * r1) + (r2 - r2 / 8 * 8)), .ref (q 17)]) wv_X9_121 F hS (fun _ h => h) hS.2.1 (tX9_at l G A q hq h6) hP (x_recv (ci := 7) F hP rfl (by decide) (eM_0 G q _)) rfl hl.1 rfl ⟨Nat.le_of_ble_eq_true rfl, Nat.le_of_ble_eq_true rfl⟩ ⟨Nat.le_refl _, Nat.le_refl _⟩ (Nat.le_of_ble_eq_true rfl) dX9_local_47 (fun H locs hP hS _ _ => ?_)
    obtain ⟨g3, hs⟩ := gd_some hs
    obtain ⟨M3, eM3, hs⟩ := lt_some hs
    refine x_iast F hq hP hS (arM_17 G q) g3 eM3 dX9_local_50 (fun H locs hP hS => ?_)
    refine lv_aload_n F.1 F.2.1 dX9_local_51 rfl (lv_at hl 1 rfl) ?_
    refine lv_iconst (v := 1) F.1 F.2.1 dX9_local_52 rfl ?_
    obtain ⟨M4, h7, hs⟩ := bn_some hs
    refine x_callV (rest := []) wv_X9_170 F hS (fun _ h => h) hS.2.1 (tX9_drop l G A q hq h7) hP (x_recv (ci := 7) F hP rfl (by decide) (eM_0 G q _)) rfl hl.1 rfl ⟨Nat.le_of_ble_eq_true rfl, Nat.le_of_ble_eq_true rfl⟩ ⟨Nat.le_refl _, Nat.le_refl _⟩ (Nat.le_of_ble_eq_true rfl) dX9_local_53 (fun H locs hP hS _ _ => ?_)
    refine lv_goto (tgt := 78) F.1 F.2.1 dX9_local_56 (by decide) ?_
    refine lv_aload_n F.1 F.2.1 dX9_local_78 rfl (lv_at hl 1 rfl) ?_
    refine lv_iload_n F.1 F.2.1 dX9_local_79 rfl (lv_at hl 2 rfl) ?_
    obtain ⟨r6, h8, hs⟩ := bn_some hs
    refine x_callSI (rest := [.ref (q 0)]) wv_X9_115 F hS (fun _ h => h) hS.2.1 (tX9_length l G A (zP G.1 21 q (eM G q) M4) h8) hP rfl hl.1 rfl ⟨Nat.le_of_ble_eq_true rfl, Nat.le_of_ble_eq_true rfl⟩ ⟨Nat.le_refl _, Nat.le_refl _⟩ (Nat.le_of_ble_eq_true rfl) dX9_local_80 (fun H locs hP hS _ _ => ?_)
    obtain ⟨M5, h9, hs⟩ := bn_some hs
    refine x_callV (rest := []) wv_X9_167 F hS (fun _ h => h) hS.2.1 (tX9_on l G A q hq h9) hP (x_recv (ci := 7) F hP rfl (by decide) (eM_0 G q _)) rfl hl.1 rfl ⟨Nat.le_of_ble_eq_true rfl, Nat.le_of_ble_eq_true rfl⟩ ⟨Nat.le_refl _, Nat.le_refl _⟩ (Nat.le_of_ble_eq_true rfl) dX9_local_83 (fun H locs hP hS _ _ => ?_)
    cases hs
    exact x_vret F hP hS dX9_local_86
  have hs := it_t c1 hs
  refine lv_aload_n F.1 F.2.1 dX9_local_22 rfl (lv_at hl 1 rfl) ?_
  refine lv_aload_n F.1 F.2.1 dX9_local_23 rfl (lv_at hl 1 rfl) ?_
  refine gM_X9_67 F hP dX9_local_24 ?_
  refine lv_iload_n F.1 F.2.1 dX9_local_27 rfl (lv_at hl 0 rfl) ?_
  obtain ⟨g4, hs⟩ := gd_some hs
  refine x_iald F hP (arM_17 G q) g4 dX9_local_28 ?_
  obtain ⟨M6, h10, hs⟩ := bn_some hs
  refine x_callV (rest := []) wv_X9_153 F hS (fun _ h => h) hS.2.1 (tX9_put l G A q hq h10) hP (x_recv (ci := 7) F hP rfl (by decide) (eM_0 G q _)) rfl hl.1 rfl ⟨Nat.le_of_ble_eq_true rfl, Nat.le_of_ble_eq_true rfl⟩ ⟨Nat.le_refl _, Nat.le_refl _⟩ (Nat.le_of_ble_eq_true rfl) dX9_local_29 (fun H locs hP hS _ _ => ?_)
  refine lv_goto (tgt := 78) F.1 F.2.1 dX9_local_32 (by decide) ?_
  refine lv_aload_n F.1 F.2.1 dX9_local_78 rfl (lv_at hl 1 rfl) ?_
  refine lv_iload_n F.1 F.2.1 dX9_local_79 rfl (lv_at hl 2 rfl) ?_
  obtain ⟨r7, h11, hs⟩ := bn_some hs
  refine x_callSI (rest := [.ref (q 0)]) wv_X9_115 F hS (fun _ h => h) hS.2.1 (tX9_length l G A (zP G.1 21 q (eM G q) M6) h11) hP rfl hl.1 rfl ⟨Nat.le_of_ble_eq_true rfl, Nat.le_of_ble_eq_true rfl⟩ ⟨Nat.le_refl _, Nat.le_refl _⟩ (Nat.le_of_ble_eq_true rfl) dX9_local_80 (fun H locs hP hS _ _ => ?_)
  obtain ⟨M7, h12, hs⟩ := bn_some hs
  refine x_callV (rest := []) wv_X9_167 F hS (fun _ h => h) hS.2.1 (tX9_on l G A q hq h12) hP (x_recv (ci := 7) F hP rfl (by decide) (eM_0 G q _)) rfl hl.1 rfl ⟨Nat.le_of_ble_eq_true rfl, Nat.le_of_ble_eq_true rfl⟩ ⟨Nat.le_refl _, Nat.le_refl _⟩ (Nat.le_of_ble_eq_true rfl) dX9_local_83 (fun H locs hP hS _ _ => ?_)
  cases hs
  exact x_vret F hP hS dX9_local_86

def pX9_replace (M : St) (x1 : Int32) (x2 : Int32) : Option St :=
  bn (pX9_drop M x1) fun M1 =>
  bn (pX9_put M1 x2) fun M2 =>
  bn (pX9_on M2 1) fun M3 =>
  some M3
set_option maxHeartbeats 4000000 in
set_option maxRecDepth 100000 in
theorem tX9_replace (l : Launch) (G : zG) (A : Nat → Prop) (q : Nat → Nat) (hq : zQD A 21 q) {M M' : St} {x1 : Int32} {x2 : Int32} (hs : pX9_replace M x1 x2 = some M') : zKV l yX9_replace cX9_replace 3 3 61 G A (zP G.1 21 q (eM G q) M) [.ref (q 0), .int x1, .int x2] (zP G.1 21 q (eM G q) M') := by
  refine zKV_of (by decide) (Nat.le_of_ble_eq_true rfl) (fun p e s m args below meth c H ls F hH hP hl => ?_)
  have F : zFx p s m args meth c cX9_replace RX9 3 none G A := F
  have hS : va_S A s.heap H [] := hH ▸ va_S.rf
  have hl : lv_has ls 3 [(0, .ref (q 0)), (1, .int x1), (2, .int x2)] := hl
  rw [pX9_replace] at hs
  refine lv_aload_n F.1 F.2.1 dX9_replace_0 rfl (lv_at hl 0 rfl) ?_
  refine lv_iload_n F.1 F.2.1 dX9_replace_1 rfl (lv_at hl 1 rfl) ?_
  obtain ⟨M1, h1, hs⟩ := bn_some hs
  refine x_callV (rest := []) wv_X9_170 F hS (fun _ h => h) hS.2.1 (tX9_drop l G A q hq h1) hP (x_recv (ci := 7) F hP rfl (by decide) (eM_0 G q _)) rfl hl.1 rfl ⟨Nat.le_of_ble_eq_true rfl, Nat.le_of_ble_eq_true rfl⟩ ⟨Nat.le_refl _, Nat.le_refl _⟩ (Nat.le_of_ble_eq_true rfl) dX9_replace_2 (fun H locs hP hS _ _ => ?_)
  refine lv_aload_n F.1 F.2.1 dX9_replace_5 rfl (lv_at hl 0 rfl) ?_
  refine lv_iload_n F.1 F.2.1 dX9_replace_6 rfl (lv_at hl 2 rfl) ?_
  obtain ⟨M2, h2, hs⟩ := bn_some hs
  refine x_callV (rest := []) wv_X9_153 F hS (fun _ h => h) hS.2.1 (tX9_put l G A q hq h2) hP (x_recv (ci := 7) F hP rfl (by decide) (eM_0 G q _)) rfl hl.1 rfl ⟨Nat.le_of_ble_eq_true rfl, Nat.le_of_ble_eq_true rfl⟩ ⟨Nat.le_refl _, Nat.le_refl _⟩ (Nat.le_of_ble_eq_true rfl) dX9_replace_7 (fun H locs hP hS _ _ => ?_)
  refine lv_aload_n F.1 F.2.1 dX9_replace_10 rfl (lv_at hl 0 rfl) ?_
  refine lv_iconst (v := 1) F.1 F.2.1 dX9_replace_11 rfl ?_
  obtain ⟨M3, h3, hs⟩ := bn_some hs
  refine x_callV (rest := []) wv_X9_167 F hS (fun _ h => h) hS.2.1 (tX9_on l G A q hq h3) hP (x_recv (ci := 7) F hP rfl (by decide) (eM_0 G q _)) rfl hl.1 rfl ⟨Nat.le_of_ble_eq_true rfl, Nat.le_of_ble_eq_true rfl⟩ ⟨Nat.le_refl _, Nat.le_refl _⟩ (Nat.le_of_ble_eq_true rfl) dX9_replace_12 (fun H locs hP hS _ _ => ?_)
  cases hs
  exact x_vret F hP hS dX9_replace_15

def pX9_transact_b14 (M : St) (x1 : Int32) : Option St :=
  if x1 = 36 then
    lt (up2 M 0 13 1) fun M5 =>
    lt (up2 M5 0 14 0) fun M6 =>
    lt (up2 M6 0 15 0) fun M7 =>
    lt (up2 M7 0 18 (M7 0 4)) fun M8 =>
    lt (up2 M8 0 19 (M8 0 10)) fun M9 =>
    bn (pX9_on M9 1) fun M10 =>
    some M10
  else
    if x1 = 37 then
      lt (up2 M 0 13 0) fun M3 =>
      bn (pX9_on M3 1) fun M4 =>
      some M4
    else
      bn (pX9_undoAll M) fun M1 =>
      bn (pX9_on M1 1) fun M2 =>
      some M2
def pX9_transact (M : St) (x1 : Int32) : Option St :=
  if x1 = 37 then
    bn2 (pX9_writes M) fun r1 M1 =>
    if r1 = 0 then
      some M1
    else
      pX9_transact_b14 M1 x1
  else
    pX9_transact_b14 M x1
set_option maxHeartbeats 4000000 in
set_option maxRecDepth 100000 in
theorem tX9_transact_b14 {G : zG} {A : Nat → Prop} {q : Nat → Nat} (hq : zQD A 21 q) {M M' : St} {x1 : Int32} (hs : pX9_transact_b14 M x1 = some M') {p : Program} {l : Launch} {e : Env} {s : State} {m : MethodId} {args : Array Value} {below : List Frame} {meth : Method} {c : Code} {H : Heap} {locs : List Loc} {ls : Array Slot} (F : zFx p s m args meth c cX9_transact RX9 2 none G A) (hP : (zP G.1 21 q (eM G q) M) H) (hS : va_S A s.heap H locs) (hl : lv_has ls 2 [(0, .ref (q 0)), (1, .int x1)]) : W p l e { frames := 3, cells := 0, slots := 0, locals := 61 } s m args below meth c H locs 0 0 (MQ below (va_Qv (fun (_ : Unit) => True) (fun _ U => (zP G.1 21 q (eM G q) M') U.heap) A) args s 0 0 A) (F0 m 14 ls []) := by
  rw [pX9_transact_b14] at hs
  refine lv_iload_n F.1 F.2.1 dX9_transact_14 rfl (lv_at hl 1 rfl) ?_
  refine lv_bipush (v := 36) F.1 F.2.1 dX9_transact_15 rfl ?_
  refine lv_icmp_ne (tgt := 54) F.1 F.2.1 dX9_transact_17 (by decide) (fun c1 => ?_) (fun c1 => ?_)
  · have hs := it_f c1 hs
    refine lv_iload_n F.1 F.2.1 dX9_transact_54 rfl (lv_at hl 1 rfl) ?_
    refine lv_bipush (v := 37) F.1 F.2.1 dX9_transact_55 rfl ?_
    refine lv_icmp_ne (tgt := 68) F.1 F.2.1 dX9_transact_57 (by decide) (fun c2 => ?_) (fun c2 => ?_)
    · have hs := it_f c2 hs
      refine lv_aload_n F.1 F.2.1 dX9_transact_68 rfl (lv_at hl 0 rfl) ?_
      obtain ⟨M1, h1, hs⟩ := bn_some hs
      refine x_callV (rest := []) wv_X9_196 F hS (fun _ h => h) hS.2.1 (tX9_undoAll l G A q hq h1) hP (x_recv (ci := 7) F hP rfl (by decide) (eM_0 G q _)) rfl hl.1 rfl ⟨Nat.le_of_ble_eq_true rfl, Nat.le_of_ble_eq_true rfl⟩ ⟨Nat.le_refl _, Nat.le_refl _⟩ (Nat.le_of_ble_eq_true rfl) dX9_transact_69 (fun H locs hP hS _ _ => ?_)
      refine lv_aload_n F.1 F.2.1 dX9_transact_72 rfl (lv_at hl 0 rfl) ?_
      refine lv_iconst (v := 1) F.1 F.2.1 dX9_transact_73 rfl ?_
      obtain ⟨M2, h2, hs⟩ := bn_some hs
      refine x_callV (rest := []) wv_X9_167 F hS (fun _ h => h) hS.2.1 (tX9_on l G A q hq h2) hP (x_recv (ci := 7) F hP rfl (by decide) (eM_0 G q _)) rfl hl.1 rfl ⟨Nat.le_of_ble_eq_true rfl, Nat.le_of_ble_eq_true rfl⟩ ⟨Nat.le_refl _, Nat.le_refl _⟩ (Nat.le_of_ble_eq_true rfl) dX9_transact_74 (fun H locs hP hS _ _ => ?_)
      cases hs
      exact x_vret F hP hS dX9_transact_77
    have hs := it_t c2 hs
    refine lv_aload_n F.1 F.2.1 dX9_transact_60 rfl (lv_at hl 0 rfl) ?_
    refine lv_iconst (v := 0) F.1 F.2.1 dX9_transact_61 rfl ?_
    obtain ⟨M3, eM3, hs⟩ := lt_some hs
    refine hM_X9_131 rfl F hq hP hS eM3 dX9_transact_62 (fun H locs hP hS => ?_)
    refine lv_goto (tgt := 72) F.1 F.2.1 dX9_transact_65 (by decide) ?_
    refine lv_aload_n F.1 F.2.1 dX9_transact_72 rfl (lv_at hl 0 rfl) ?_
    refine lv_iconst (v := 1) F.1 F.2.1 dX9_transact_73 rfl ?_
    obtain ⟨M4, h3, hs⟩ := bn_some hs
    refine x_callV (rest := []) wv_X9_167 F hS (fun _ h => h) hS.2.1 (tX9_on l G A q hq h3) hP (x_recv (ci := 7) F hP rfl (by decide) (eM_0 G q _)) rfl hl.1 rfl ⟨Nat.le_of_ble_eq_true rfl, Nat.le_of_ble_eq_true rfl⟩ ⟨Nat.le_refl _, Nat.le_refl _⟩ (Nat.le_of_ble_eq_true rfl) dX9_transact_74 (fun H locs hP hS _ _ => ?_)
    cases hs
    exact x_vret F hP hS dX9_transact_77
  have hs := it_t c1 hs
  refine lv_aload_n F.1 F.2.1 dX9_transact_20 rfl (lv_at hl 0 rfl) ?_
  refine lv_iconst (v := 1) F.1 F.2.1 dX9_transact_21 rfl ?_
  obtain ⟨M5, eM5, hs⟩ := lt_some hs
  refine hM_X9_131 rfl F hq hP hS eM5 dX9_transact_22 (fun H locs hP hS => ?_)
  refine lv_aload_n F.1 F.2.1 dX9_transact_25 rfl (lv_at hl 0 rfl) ?_
  refine lv_iconst (v := 0) F.1 F.2.1 dX9_transact_26 rfl ?_
  obtain ⟨M6, eM6, hs⟩ := lt_some hs
  refine hM_X9_134 F hq hP hS eM6 dX9_transact_27 (fun H locs hP hS => ?_)
  refine lv_aload_n F.1 F.2.1 dX9_transact_30 rfl (lv_at hl 0 rfl) ?_
  refine lv_iconst (v := 0) F.1 F.2.1 dX9_transact_31 rfl ?_
  obtain ⟨M7, eM7, hs⟩ := lt_some hs
  refine hM_X9_144 F hq hP hS eM7 dX9_transact_32 (fun H locs hP hS => ?_)
  refine lv_aload_n F.1 F.2.1 dX9_transact_35 rfl (lv_at hl 0 rfl) ?_
  refine lv_aload_n F.1 F.2.1 dX9_transact_36 rfl (lv_at hl 0 rfl) ?_
  refine gM_X9_83 F hP dX9_transact_37 ?_
  obtain ⟨M8, eM8, hs⟩ := lt_some hs
  refine hM_X9_147 F hq hP hS eM8 dX9_transact_40 (fun H locs hP hS => ?_)
  refine lv_aload_n F.1 F.2.1 dX9_transact_43 rfl (lv_at hl 0 rfl) ?_
  refine lv_aload_n F.1 F.2.1 dX9_transact_44 rfl (lv_at hl 0 rfl) ?_
  refine gM_X9_86 F hP dX9_transact_45 ?_
  obtain ⟨M9, eM9, hs⟩ := lt_some hs
  refine hM_X9_150 F hq hP hS eM9 dX9_transact_48 (fun H locs hP hS => ?_)
  refine lv_goto (tgt := 72) F.1 F.2.1 dX9_transact_51 (by decide) ?_
  refine lv_aload_n F.1 F.2.1 dX9_transact_72 rfl (lv_at hl 0 rfl) ?_
  refine lv_iconst (v := 1) F.1 F.2.1 dX9_transact_73 rfl ?_
  obtain ⟨M10, h4, hs⟩ := bn_some hs
  refine x_callV (rest := []) wv_X9_167 F hS (fun _ h => h) hS.2.1 (tX9_on l G A q hq h4) hP (x_recv (ci := 7) F hP rfl (by decide) (eM_0 G q _)) rfl hl.1 rfl ⟨Nat.le_of_ble_eq_true rfl, Nat.le_of_ble_eq_true rfl⟩ ⟨Nat.le_refl _, Nat.le_refl _⟩ (Nat.le_of_ble_eq_true rfl) dX9_transact_74 (fun H locs hP hS _ _ => ?_)
  cases hs
  exact x_vret F hP hS dX9_transact_77
set_option maxHeartbeats 4000000 in
set_option maxRecDepth 100000 in
theorem tX9_transact (l : Launch) (G : zG) (A : Nat → Prop) (q : Nat → Nat) (hq : zQD A 21 q) {M M' : St} {x1 : Int32} (hs : pX9_transact M x1 = some M') : zKV l yX9_transact cX9_transact 2 3 61 G A (zP G.1 21 q (eM G q) M) [.ref (q 0), .int x1] (zP G.1 21 q (eM G q) M') := by
  refine zKV_of (by decide) (Nat.le_of_ble_eq_true rfl) (fun p e s m args below meth c H ls F hH hP hl => ?_)
  have F : zFx p s m args meth c cX9_transact RX9 2 none G A := F
  have hS : va_S A s.heap H [] := hH ▸ va_S.rf
  have hl : lv_has ls 2 [(0, .ref (q 0)), (1, .int x1)] := hl
  rw [pX9_transact] at hs
  refine lv_iload_n F.1 F.2.1 dX9_transact_0 rfl (lv_at hl 1 rfl) ?_
  refine lv_bipush (v := 37) F.1 F.2.1 dX9_transact_1 rfl ?_
  refine lv_icmp_ne (tgt := 14) F.1 F.2.1 dX9_transact_3 (by decide) (fun c1 => ?_) (fun c1 => ?_)
  · have hs := it_f c1 hs
    exact tX9_transact_b14 hq hs F hP hS (lv_sub hl [0, 1] rfl)
  have hs := it_t c1 hs
  refine lv_aload_n F.1 F.2.1 dX9_transact_6 rfl (lv_at hl 0 rfl) ?_
  obtain ⟨r1, M1, h1, hs⟩ := bn2_some hs
  refine x_callI (rest := []) wv_X9_163 F hS (fun _ h => h) hS.2.1 (tX9_writes l G A q hq h1) hP (x_recv (ci := 7) F hP rfl (by decide) (eM_0 G q _)) rfl hl.1 rfl ⟨Nat.le_of_ble_eq_true rfl, Nat.le_of_ble_eq_true rfl⟩ ⟨Nat.le_refl _, Nat.le_refl _⟩ (Nat.le_of_ble_eq_true rfl) dX9_transact_7 (fun H locs hP hS _ _ => ?_)
  refine lv_if_ne (tgt := 14) F.1 F.2.1 dX9_transact_10 (by decide) (fun c2 => ?_) (fun c2 => ?_)
  · have hs := it_f c2 hs
    exact tX9_transact_b14 hq hs F hP hS (lv_sub hl [0, 1] rfl)
  have hs := it_t c2 hs
  cases hs
  exact x_vret F hP hS dX9_transact_13

def pX9_actSmall_b212 (M : St) (x1 : Int32) : Option St :=
  if x1 = 1 then
    bn (pX9_signed M 1) fun r3 =>
    bn (pX9_on M (x1 + 1)) fun M3 =>
    bn (pX9_put M3 r3) fun M4 =>
    some M4
  else
    bn (pX9_signed M 1) fun r1 =>
    bn (pX9_byteAt M 2) fun r2 =>
    bn (pX9_on M (x1 + 1)) fun M1 =>
    bn (pX9_put M1 ((r1 <<< (8 &&& 31)) ||| r2)) fun M2 =>
    some M2
def pX9_actSmall_b16 (M : St) (x1 : Int32) (t0 : Int32) : Option St :=
  if (x1).toInt < 1 ∨ 45 < (x1).toInt then
    bn (pX9_on M 1) fun M1 =>
    some M1
  else
  if (x1) = 1 then
    pX9_actSmall_b212 M x1
  else
  if (x1) = 2 then
    pX9_actSmall_b212 M x1
  else
  if (x1) = 3 then
    bn (pX9_on M 1) fun M2 =>
    some M2
  else
  if (x1) = 4 then
    bn (pX9_on M 1) fun M3 =>
    some M3
  else
  if (x1) = 5 then
    bn (pX9_on M 1) fun M4 =>
    some M4
  else
  if (x1) = 6 then
    bn (pX9_on M 1) fun M5 =>
    some M5
  else
  if (x1) = 7 then
    bn (pX9_on M 1) fun M6 =>
    some M6
  else
  if (x1) = 8 then
    bn (pX9_on M 1) fun M7 =>
    some M7
  else
  if (x1) = 9 then
    bn (pX9_on M 1) fun M8 =>
    some M8
  else
  if (x1) = 10 then
    bn (pX9_on M 1) fun M9 =>
    some M9
  else
  if (x1) = 11 then
    bn (pX9_replace M 1 (-t0)) fun M10 =>
    some M10
  else
  if (x1) = 12 then
    bn (pX9_on M 1) fun M11 =>
    some M11
  else
  if (x1) = 13 then
    bn (pX9_on M 1) fun M12 =>
    some M12
  else
  if (x1) = 14 then
    bn (pX9_on M 1) fun M13 =>
    some M13
  else
  if (x1) = 15 then
    bn (pX9_on M 1) fun M14 =>
    some M14
  else
  if (x1) = 16 then
    bn (pX9_on M 1) fun M15 =>
    some M15
  else
  if (x1) = 17 then
    bn (pX9_on M 1) fun M16 =>
    some M16
  else
  if (x1) = 18 then
    bn (pX9_replace M 0 t0) fun M17 =>
    some M17
  else
  if (x1) = 19 then
    bn (pX9_drop M 1) fun M18 =>
    bn (pX9_on M18 1) fun M19 =>
    some M19
  else
  if (x1) = 20 then
    bn (pX9_at M 1) fun r1 =>
    bn (pX9_drop M 2) fun M20 =>
    bn (pX9_put M20 t0) fun M21 =>
    bn (pX9_put M21 r1) fun M22 =>
    bn (pX9_on M22 1) fun M23 =>
    some M23
  else
  if (x1) = 21 then
    bn (pX9_on M 1) fun M24 =>
    some M24
  else
  if (x1) = 22 then
    bn (pX9_on M 1) fun M25 =>
    some M25
  else
  if (x1) = 23 then
    bn (pX9_on M 1) fun M26 =>
    some M26
  else
  if (x1) = 24 then
    bn (pX9_on M 1) fun M27 =>
    some M27
  else
  if (x1) = 25 then
    bn (pX9_on M 1) fun M28 =>
    some M28
  else
  if (x1) = 26 then
    bn (pX9_on M 1) fun M29 =>
    some M29
  else
  if (x1) = 27 then
    bn (pX9_on M 1) fun M30 =>
    some M30
  else
  if (x1) = 28 then
    bn (pX9_on M 1) fun M31 =>
    some M31
  else
  if (x1) = 29 then
    bn (pX9_on M 1) fun M32 =>
    some M32
  else
  if (x1) = 30 then
    bn (pX9_at M 1) fun r2 =>
    gd (inb r2 41) <|
    gd (inb ((M 8 (ix r2)) + t0) 240) <|
    bn (pX9_replace M 2 (M 9 (ix ((M 8 (ix r2)) + t0)))) fun M33 =>
    some M33
  else
  if (x1) = 31 then
    bn (pX9_on M 1) fun M34 =>
    some M34
  else
  if (x1) = 32 then
    gd (inb t0 41) <|
    bn (pX9_replace M 1 (M 7 (ix t0))) fun M35 =>
    some M35
  else
  if (x1) = 33 then
    bn (pX9_top M) fun r3 =>
    gd (inb r3 8) <|
    bn (pX9_replace M 0 ((M 14 (ix r3)) + 1)) fun M36 =>
    some M36
  else
  if (x1) = 34 then
    gd (inb t0 41) <|
    bn (pX9_replace M 1 (M 5 (ix t0))) fun M37 =>
    some M37
  else
  if (x1) = 35 then
    bn (pX9_on M 1) fun M38 =>
    some M38
  else
  if (x1) = 36 then
    bn (pX9_on M 1) fun M39 =>
    some M39
  else
  if (x1) = 37 then
    bn (pX9_on M 1) fun M40 =>
    some M40
  else
  if (x1) = 38 then
    bn (pX9_on M 1) fun M41 =>
    some M41
  else
  if (x1) = 39 then
    if M 0 13 = 0 then
      bn (pX9_replace M 0 0) fun M42 =>
      some M42
    else
      bn (pX9_replace M 0 1) fun M43 =>
      some M43
  else
  if (x1) = 40 then
    gd (inb t0 32) <|
    bn (pX9_replace M 1 ((M 12 (ix t0)).toInt8.toInt32)) fun M44 =>
    some M44
  else
  if (x1) = 41 then
    bn (pX9_replace M 0 (M 0 21)) fun M45 =>
    some M45
  else
  if (x1) = 42 then
    gd (inb (M 0 23) 32) <|
    lt (up2 M 13 (ix (M 0 23)) (t0 &&& 255)) fun M46 =>
    lt (up2 M46 0 23 ((M46 0 23) + 1)) fun M47 =>
    bn (pX9_drop M47 1) fun M48 =>
    bn (pX9_on M48 1) fun M49 =>
    some M49
  else
  if (x1) = 43 then
    bn (pX9_throwIt M t0) fun M50 =>
    some M50
  else
  if (x1) = 44 then
    bn (pX9_top M) fun r4 =>
    gd (inb r4 8) <|
    lt (up2 M 16 (ix r4) 1) fun M51 =>
    bn (pX9_top M51) fun r5 =>
    bn (pX9_here M51) fun r6 =>
    bn (pX9_signed M51 1) fun r7 =>
    gd (inb r5 8) <|
    lt (up2 M51 20 (ix r5) (r6 + r7)) fun M52 =>
    bn (pX9_on M52 2) fun M53 =>
    some M53
  else
  if (x1) = 45 then
    bn (pX9_top M) fun r8 =>
    gd (inb r8 8) <|
    lt (up2 M 16 (ix r8) ((-1))) fun M54 =>
    bn (pX9_on M54 1) fun M55 =>
    some M55
  else
    none
def pX9_actSmall (M : St) (x1 : Int32) : Option St :=
  bn (pX9_depth M) fun r1 =>
  if r1 ≤ 0 then
    pX9_actSmall_b16 M x1 0
  else
    bn (pX9_at M 0) fun r2 =>
    pX9_actSmall_b16 M x1 r2
set_option maxHeartbeats 4000000 in
set_option maxRecDepth 100000 in
theorem tX9_actSmall_b212 {G : zG} {A : Nat → Prop} {q : Nat → Nat} (hq : zQD A 21 q) {M M' : St} {x1 : Int32} (hs : pX9_actSmall_b212 M x1 = some M') {p : Program} {l : Launch} {e : Env} {s : State} {m : MethodId} {args : Array Value} {below : List Frame} {meth : Method} {c : Code} {H : Heap} {locs : List Loc} {ls : Array Slot} (F : zFx p s m args meth c cX9_actSmall RX9 5 none G A) (hP : (zP G.1 21 q (eM G q) M) H) (hS : va_S A s.heap H locs) (hl : lv_has ls 5 [(0, .ref (q 0)), (1, .int x1)]) : W p l e { frames := 4, cells := 0, slots := 0, locals := 83 } s m args below meth c H locs 0 0 (MQ below (va_Qv (fun (_ : Unit) => True) (fun _ U => (zP G.1 21 q (eM G q) M') U.heap) A) args s 0 0 A) (F0 m 212 ls []) := by
  rw [pX9_actSmall_b212] at hs
  refine lv_iload_n F.1 F.2.1 dX9_actSmall_212 rfl (lv_at hl 1 rfl) ?_
  refine lv_iconst (v := 1) F.1 F.2.1 dX9_actSmall_213 rfl ?_
  refine lv_icmp_ne (tgt := 225) F.1 F.2.1 dX9_actSmall_214 (by decide) (fun c1 => ?_) (fun c1 => ?_)
  · have hs := it_f c1 hs
    refine lv_aload_n F.1 F.2.1 dX9_actSmall_225 rfl (lv_at hl 0 rfl) ?_
    refine lv_iconst (v := 1) F.1 F.2.1 dX9_actSmall_226 rfl ?_
    obtain ⟨r1, h1, hs⟩ := bn_some hs
    refine x_callI (rest := []) wv_X9_193 F hS (fun _ h => h) hS.2.1 (tX9_signed l G A q hq h1) hP (x_recv (ci := 7) F hP rfl (by decide) (eM_0 G q _)) rfl hl.1 rfl ⟨Nat.le_of_ble_eq_true rfl, Nat.le_of_ble_eq_true rfl⟩ ⟨Nat.le_refl _, Nat.le_refl _⟩ (Nat.le_of_ble_eq_true rfl) dX9_actSmall_227 (fun H locs hP hS _ _ => ?_)
    refine lv_bipush (v := 8) F.1 F.2.1 dX9_actSmall_230 rfl ?_
    refine lv_ishl F.1 F.2.1 dX9_actSmall_232 ?_
    refine lv_aload_n F.1 F.2.1 dX9_actSmall_233 rfl (lv_at hl 0 rfl) ?_
    refine lv_iconst (v := 2) F.1 F.2.1 dX9_actSmall_234 rfl ?_
    obtain ⟨r2, h2, hs⟩ := bn_some hs
    refine x_callI (rest := [.int (r1 <<< (8 &&& 31))]) wv_X9_111 F hS (fun _ h => h) hS.2.1 (tX9_byteAt l G A q hq h2) hP (x_recv (ci := 7) F hP rfl (by decide) (eM_0 G q _)) rfl hl.1 rfl ⟨Nat.le_of_ble_eq_true rfl, Nat.le_of_ble_eq_true rfl⟩ ⟨Nat.le_refl _, Nat.le_refl _⟩ (Nat.le_of_ble_eq_true rfl) dX9_actSmall_235 (fun H locs hP hS _ _ => ?_)
    refine lv_ior F.1 F.2.1 dX9_actSmall_238 ?_
    refine lv_istore_n (lv' := [(3, .int ((r1 <<< (8 &&& 31)) ||| r2)), (0, .ref (q 0)), (1, .int x1)]) F.1 F.2.1 dX9_actSmall_239 rfl hl (by decide) rfl (fun ls hl => ?_)
    refine lv_aload_n F.1 F.2.1 dX9_actSmall_240 rfl (lv_at hl 1 rfl) ?_
    refine lv_iload_n F.1 F.2.1 dX9_actSmall_241 rfl (lv_at hl 2 rfl) ?_
    refine lv_iconst (v := 1) F.1 F.2.1 dX9_actSmall_242 rfl ?_
    refine lv_iadd F.1 F.2.1 dX9_actSmall_243 ?_
    obtain ⟨M1, h3, hs⟩ := bn_some hs
    refine x_callV (rest := []) wv_X9_167 F hS (fun _ h => h) hS.2.1 (tX9_on l G A q hq h3) hP (x_recv (ci := 7) F hP rfl (by decide) (eM_0 G q _)) rfl hl.1 rfl ⟨Nat.le_of_ble_eq_true rfl, Nat.le_of_ble_eq_true rfl⟩ ⟨Nat.le_refl _, Nat.le_refl _⟩ (Nat.le_of_ble_eq_true rfl) dX9_actSmall_244 (fun H locs hP hS _ _ => ?_)
    refine lv_aload_n F.1 F.2.1 dX9_actSmall_247 rfl (lv_at hl 1 rfl) ?_
    refine lv_iload_n F.1 F.2.1 dX9_actSmall_248 rfl (lv_at hl 0 rfl) ?_
    obtain ⟨M2, h4, hs⟩ := bn_some hs
    refine x_callV (rest := []) wv_X9_153 F hS (fun _ h => h) hS.2.1 (tX9_put l G A q hq h4) hP (x_recv (ci := 7) F hP rfl (by decide) (eM_0 G q _)) rfl hl.1 rfl ⟨Nat.le_of_ble_eq_true rfl, Nat.le_of_ble_eq_true rfl⟩ ⟨Nat.le_refl _, Nat.le_refl _⟩ (Nat.le_of_ble_eq_true rfl) dX9_actSmall_249 (fun H locs hP hS _ _ => ?_)
    refine lv_goto (tgt := 542) F.1 F.2.1 dX9_actSmall_252 (by decide) ?_
    cases hs
    exact x_vret F hP hS dX9_actSmall_542
  have hs := it_t c1 hs
  refine lv_aload_n F.1 F.2.1 dX9_actSmall_217 rfl (lv_at hl 0 rfl) ?_
  refine lv_iconst (v := 1) F.1 F.2.1 dX9_actSmall_218 rfl ?_
  obtain ⟨r3, h5, hs⟩ := bn_some hs
  refine x_callI (rest := []) wv_X9_193 F hS (fun _ h => h) hS.2.1 (tX9_signed l G A q hq h5) hP (x_recv (ci := 7) F hP rfl (by decide) (eM_0 G q _)) rfl hl.1 rfl ⟨Nat.le_of_ble_eq_true rfl, Nat.le_of_ble_eq_true rfl⟩ ⟨Nat.le_refl _, Nat.le_refl _⟩ (Nat.le_of_ble_eq_true rfl) dX9_actSmall_219 (fun H locs hP hS _ _ => ?_)
  refine lv_goto (tgt := 239) F.1 F.2.1 dX9_actSmall_222 (by decide) ?_
  refine lv_istore_n (lv' := [(3, .int r3), (0, .ref (q 0)), (1, .int x1)]) F.1 F.2.1 dX9_actSmall_239 rfl hl (by decide) rfl (fun ls hl => ?_)
  refine lv_aload_n F.1 F.2.1 dX9_actSmall_240 rfl (lv_at hl 1 rfl) ?_
  refine lv_iload_n F.1 F.2.1 dX9_actSmall_241 rfl (lv_at hl 2 rfl) ?_
  refine lv_iconst (v := 1) F.1 F.2.1 dX9_actSmall_242 rfl ?_
  refine lv_iadd F.1 F.2.1 dX9_actSmall_243 ?_
  obtain ⟨M3, h6, hs⟩ := bn_some hs
  refine x_callV (rest := []) wv_X9_167 F hS (fun _ h => h) hS.2.1 (tX9_on l G A q hq h6) hP (x_recv (ci := 7) F hP rfl (by decide) (eM_0 G q _)) rfl hl.1 rfl ⟨Nat.le_of_ble_eq_true rfl, Nat.le_of_ble_eq_true rfl⟩ ⟨Nat.le_refl _, Nat.le_refl _⟩ (Nat.le_of_ble_eq_true rfl) dX9_actSmall_244 (fun H locs hP hS _ _ => ?_)
  refine lv_aload_n F.1 F.2.1 dX9_actSmall_247 rfl (lv_at hl 1 rfl) ?_
  refine lv_iload_n F.1 F.2.1 dX9_actSmall_248 rfl (lv_at hl 0 rfl) ?_
  obtain ⟨M4, h7, hs⟩ := bn_some hs
  refine x_callV (rest := []) wv_X9_153 F hS (fun _ h => h) hS.2.1 (tX9_put l G A q hq h7) hP (x_recv (ci := 7) F hP rfl (by decide) (eM_0 G q _)) rfl hl.1 rfl ⟨Nat.le_of_ble_eq_true rfl, Nat.le_of_ble_eq_true rfl⟩ ⟨Nat.le_refl _, Nat.le_refl _⟩ (Nat.le_of_ble_eq_true rfl) dX9_actSmall_249 (fun H locs hP hS _ _ => ?_)
  refine lv_goto (tgt := 542) F.1 F.2.1 dX9_actSmall_252 (by decide) ?_
  cases hs
  exact x_vret F hP hS dX9_actSmall_542
set_option maxHeartbeats 4000000 in
set_option maxRecDepth 100000 in
theorem tX9_actSmall_b16 {G : zG} {A : Nat → Prop} {q : Nat → Nat} (hq : zQD A 21 q) {M M' : St} {x1 : Int32} {t0 : Int32} (hs : pX9_actSmall_b16 M x1 t0 = some M') {p : Program} {l : Launch} {e : Env} {s : State} {m : MethodId} {args : Array Value} {below : List Frame} {meth : Method} {c : Code} {H : Heap} {locs : List Loc} {ls : Array Slot} (F : zFx p s m args meth c cX9_actSmall RX9 5 none G A) (hP : (zP G.1 21 q (eM G q) M) H) (hS : va_S A s.heap H locs) (hl : lv_has ls 5 [(0, .ref (q 0)), (1, .int x1)]) : W p l e { frames := 4, cells := 0, slots := 0, locals := 83 } s m args below meth c H locs 0 0 (MQ below (va_Qv (fun (_ : Unit) => True) (fun _ U => (zP G.1 21 q (eM G q) M') U.heap) A) args s 0 0 A) (F0 m 16 ls [.int t0]) := by
  rw [pX9_actSmall_b16] at hs
  refine lv_istore_n (lv' := [(2, .int t0), (0, .ref (q 0)), (1, .int x1)]) F.1 F.2.1 dX9_actSmall_16 rfl hl (by decide) rfl (fun ls hl => ?_)
  refine lv_iload_n F.1 F.2.1 dX9_actSmall_17 rfl (lv_at hl 2 rfl) ?_
  by_cases c1 : (x1).toInt < 1 ∨ 45 < (x1).toInt
  · have hs := it_t c1 hs
    refine lv_tableOut (tgt := 537) F.1 F.2.1 dX9_actSmall_18 c1 (by decide) ?_
    refine lv_aload_n F.1 F.2.1 dX9_actSmall_537 rfl (lv_at hl 1 rfl) ?_
    refine lv_iconst (v := 1) F.1 F.2.1 dX9_actSmall_538 rfl ?_
    obtain ⟨M1, h1, hs⟩ := bn_some hs
    refine x_callV (rest := []) wv_X9_167 F hS (fun _ h => h) hS.2.1 (tX9_on l G A q hq h1) hP (x_recv (ci := 7) F hP rfl (by decide) (eM_0 G q _)) rfl hl.1 rfl ⟨Nat.le_of_ble_eq_true rfl, Nat.le_of_ble_eq_true rfl⟩ ⟨Nat.le_refl _, Nat.le_refl _⟩ (Nat.le_of_ble_eq_true rfl) dX9_actSmall_539 (fun H locs hP hS _ _ => ?_)
    cases hs
    exact x_vret F hP hS dX9_actSmall_542
  have hs := it_f c1 hs
  by_cases c2 : (x1) = 1
  · have hs := it_t c2 hs
    refine lv_tableIn (off := 194) (tgt := 212) F.1 F.2.1 dX9_actSmall_18 (by rw [c2]; decide) (by rw [c2]; decide) (by rw [c2]; rfl) (by decide) ?_
    exact tX9_actSmall_b212 hq hs F hP hS (lv_sub hl [1, 2] rfl)
  have hs := it_f c2 hs
  by_cases c3 : (x1) = 2
  · have hs := it_t c3 hs
    refine lv_tableIn (off := 194) (tgt := 212) F.1 F.2.1 dX9_actSmall_18 (by rw [c3]; decide) (by rw [c3]; decide) (by rw [c3]; rfl) (by decide) ?_
    exact tX9_actSmall_b212 hq hs F hP hS (lv_sub hl [1, 2] rfl)
  have hs := it_f c3 hs
  by_cases c4 : (x1) = 3
  · have hs := it_t c4 hs
    refine lv_tableIn (off := 519) (tgt := 537) F.1 F.2.1 dX9_actSmall_18 (by rw [c4]; decide) (by rw [c4]; decide) (by rw [c4]; rfl) (by decide) ?_
    refine lv_aload_n F.1 F.2.1 dX9_actSmall_537 rfl (lv_at hl 1 rfl) ?_
    refine lv_iconst (v := 1) F.1 F.2.1 dX9_actSmall_538 rfl ?_
    obtain ⟨M2, h2, hs⟩ := bn_some hs
    refine x_callV (rest := []) wv_X9_167 F hS (fun _ h => h) hS.2.1 (tX9_on l G A q hq h2) hP (x_recv (ci := 7) F hP rfl (by decide) (eM_0 G q _)) rfl hl.1 rfl ⟨Nat.le_of_ble_eq_true rfl, Nat.le_of_ble_eq_true rfl⟩ ⟨Nat.le_refl _, Nat.le_refl _⟩ (Nat.le_of_ble_eq_true rfl) dX9_actSmall_539 (fun H locs hP hS _ _ => ?_)
    cases hs
    exact x_vret F hP hS dX9_actSmall_542
  have hs := it_f c4 hs
  by_cases c5 : (x1) = 4
  · have hs := it_t c5 hs
    refine lv_tableIn (off := 519) (tgt := 537) F.1 F.2.1 dX9_actSmall_18 (by rw [c5]; decide) (by rw [c5]; decide) (by rw [c5]; rfl) (by decide) ?_
    refine lv_aload_n F.1 F.2.1 dX9_actSmall_537 rfl (lv_at hl 1 rfl) ?_
    refine lv_iconst (v := 1) F.1 F.2.1 dX9_actSmall_538 rfl ?_
    obtain ⟨M3, h3, hs⟩ := bn_some hs
    refine x_callV (rest := []) wv_X9_167 F hS (fun _ h => h) hS.2.1 (tX9_on l G A q hq h3) hP (x_recv (ci := 7) F hP rfl (by decide) (eM_0 G q _)) rfl hl.1 rfl ⟨Nat.le_of_ble_eq_true rfl, Nat.le_of_ble_eq_true rfl⟩ ⟨Nat.le_refl _, Nat.le_refl _⟩ (Nat.le_of_ble_eq_true rfl) dX9_actSmall_539 (fun H locs hP hS _ _ => ?_)
    cases hs
    exact x_vret F hP hS dX9_actSmall_542
  have hs := it_f c5 hs
  by_cases c6 : (x1) = 5
  · have hs := it_t c6 hs
    refine lv_tableIn (off := 519) (tgt := 537) F.1 F.2.1 dX9_actSmall_18 (by rw [c6]; decide) (by rw [c6]; decide) (by rw [c6]; rfl) (by decide) ?_
    refine lv_aload_n F.1 F.2.1 dX9_actSmall_537 rfl (lv_at hl 1 rfl) ?_
    refine lv_iconst (v := 1) F.1 F.2.1 dX9_actSmall_538 rfl ?_
    obtain ⟨M4, h4, hs⟩ := bn_some hs
    refine x_callV (rest := []) wv_X9_167 F hS (fun _ h => h) hS.2.1 (tX9_on l G A q hq h4) hP (x_recv (ci := 7) F hP rfl (by decide) (eM_0 G q _)) rfl hl.1 rfl ⟨Nat.le_of_ble_eq_true rfl, Nat.le_of_ble_eq_true rfl⟩ ⟨Nat.le_refl _, Nat.le_refl _⟩ (Nat.le_of_ble_eq_true rfl) dX9_actSmall_539 (fun H locs hP hS _ _ => ?_)
    cases hs
    exact x_vret F hP hS dX9_actSmall_542
  have hs := it_f c6 hs
  by_cases c7 : (x1) = 6
  · have hs := it_t c7 hs
    refine lv_tableIn (off := 519) (tgt := 537) F.1 F.2.1 dX9_actSmall_18 (by rw [c7]; decide) (by rw [c7]; decide) (by rw [c7]; rfl) (by decide) ?_
    refine lv_aload_n F.1 F.2.1 dX9_actSmall_537 rfl (lv_at hl 1 rfl) ?_
    refine lv_iconst (v := 1) F.1 F.2.1 dX9_actSmall_538 rfl ?_
    obtain ⟨M5, h5, hs⟩ := bn_some hs
    refine x_callV (rest := []) wv_X9_167 F hS (fun _ h => h) hS.2.1 (tX9_on l G A q hq h5) hP (x_recv (ci := 7) F hP rfl (by decide) (eM_0 G q _)) rfl hl.1 rfl ⟨Nat.le_of_ble_eq_true rfl, Nat.le_of_ble_eq_true rfl⟩ ⟨Nat.le_refl _, Nat.le_refl _⟩ (Nat.le_of_ble_eq_true rfl) dX9_actSmall_539 (fun H locs hP hS _ _ => ?_)
    cases hs
    exact x_vret F hP hS dX9_actSmall_542
  have hs := it_f c7 hs
  by_cases c8 : (x1) = 7
  · have hs := it_t c8 hs
    refine lv_tableIn (off := 519) (tgt := 537) F.1 F.2.1 dX9_actSmall_18 (by rw [c8]; decide) (by rw [c8]; decide) (by rw [c8]; rfl) (by decide) ?_
    refine lv_aload_n F.1 F.2.1 dX9_actSmall_537 rfl (lv_at hl 1 rfl) ?_
    refine lv_iconst (v := 1) F.1 F.2.1 dX9_actSmall_538 rfl ?_
    obtain ⟨M6, h6, hs⟩ := bn_some hs
    refine x_callV (rest := []) wv_X9_167 F hS (fun _ h => h) hS.2.1 (tX9_on l G A q hq h6) hP (x_recv (ci := 7) F hP rfl (by decide) (eM_0 G q _)) rfl hl.1 rfl ⟨Nat.le_of_ble_eq_true rfl, Nat.le_of_ble_eq_true rfl⟩ ⟨Nat.le_refl _, Nat.le_refl _⟩ (Nat.le_of_ble_eq_true rfl) dX9_actSmall_539 (fun H locs hP hS _ _ => ?_)
    cases hs
    exact x_vret F hP hS dX9_actSmall_542
  have hs := it_f c8 hs
  by_cases c9 : (x1) = 8
  · have hs := it_t c9 hs
    refine lv_tableIn (off := 519) (tgt := 537) F.1 F.2.1 dX9_actSmall_18 (by rw [c9]; decide) (by rw [c9]; decide) (by rw [c9]; rfl) (by decide) ?_
    refine lv_aload_n F.1 F.2.1 dX9_actSmall_537 rfl (lv_at hl 1 rfl) ?_
    refine lv_iconst (v := 1) F.1 F.2.1 dX9_actSmall_538 rfl ?_
    obtain ⟨M7, h7, hs⟩ := bn_some hs
    refine x_callV (rest := []) wv_X9_167 F hS (fun _ h => h) hS.2.1 (tX9_on l G A q hq h7) hP (x_recv (ci := 7) F hP rfl (by decide) (eM_0 G q _)) rfl hl.1 rfl ⟨Nat.le_of_ble_eq_true rfl, Nat.le_of_ble_eq_true rfl⟩ ⟨Nat.le_refl _, Nat.le_refl _⟩ (Nat.le_of_ble_eq_true rfl) dX9_actSmall_539 (fun H locs hP hS _ _ => ?_)
    cases hs
    exact x_vret F hP hS dX9_actSmall_542
  have hs := it_f c9 hs
  by_cases c10 : (x1) = 9
  · have hs := it_t c10 hs
    refine lv_tableIn (off := 519) (tgt := 537) F.1 F.2.1 dX9_actSmall_18 (by rw [c10]; decide) (by rw [c10]; decide) (by rw [c10]; rfl) (by decide) ?_
    refine lv_aload_n F.1 F.2.1 dX9_actSmall_537 rfl (lv_at hl 1 rfl) ?_
    refine lv_iconst (v := 1) F.1 F.2.1 dX9_actSmall_538 rfl ?_
    obtain ⟨M8, h8, hs⟩ := bn_some hs
    refine x_callV (rest := []) wv_X9_167 F hS (fun _ h => h) hS.2.1 (tX9_on l G A q hq h8) hP (x_recv (ci := 7) F hP rfl (by decide) (eM_0 G q _)) rfl hl.1 rfl ⟨Nat.le_of_ble_eq_true rfl, Nat.le_of_ble_eq_true rfl⟩ ⟨Nat.le_refl _, Nat.le_refl _⟩ (Nat.le_of_ble_eq_true rfl) dX9_actSmall_539 (fun H locs hP hS _ _ => ?_)
    cases hs
    exact x_vret F hP hS dX9_actSmall_542
  have hs := it_f c10 hs
  by_cases c11 : (x1) = 10
  · have hs := it_t c11 hs
    refine lv_tableIn (off := 519) (tgt := 537) F.1 F.2.1 dX9_actSmall_18 (by rw [c11]; decide) (by rw [c11]; decide) (by rw [c11]; rfl) (by decide) ?_
    refine lv_aload_n F.1 F.2.1 dX9_actSmall_537 rfl (lv_at hl 1 rfl) ?_
    refine lv_iconst (v := 1) F.1 F.2.1 dX9_actSmall_538 rfl ?_
    obtain ⟨M9, h9, hs⟩ := bn_some hs
    refine x_callV (rest := []) wv_X9_167 F hS (fun _ h => h) hS.2.1 (tX9_on l G A q hq h9) hP (x_recv (ci := 7) F hP rfl (by decide) (eM_0 G q _)) rfl hl.1 rfl ⟨Nat.le_of_ble_eq_true rfl, Nat.le_of_ble_eq_true rfl⟩ ⟨Nat.le_refl _, Nat.le_refl _⟩ (Nat.le_of_ble_eq_true rfl) dX9_actSmall_539 (fun H locs hP hS _ _ => ?_)
    cases hs
    exact x_vret F hP hS dX9_actSmall_542
  have hs := it_f c11 hs
  by_cases c12 : (x1) = 11
  · have hs := it_t c12 hs
    refine lv_tableIn (off := 237) (tgt := 255) F.1 F.2.1 dX9_actSmall_18 (by rw [c12]; decide) (by rw [c12]; decide) (by rw [c12]; rfl) (by decide) ?_
    refine lv_aload_n F.1 F.2.1 dX9_actSmall_255 rfl (lv_at hl 1 rfl) ?_
    refine lv_iconst (v := 1) F.1 F.2.1 dX9_actSmall_256 rfl ?_
    refine lv_iload_n F.1 F.2.1 dX9_actSmall_257 rfl (lv_at hl 0 rfl) ?_
    refine lv_ineg F.1 F.2.1 dX9_actSmall_258 ?_
    obtain ⟨M10, h10, hs⟩ := bn_some hs
    refine x_callV (rest := []) wv_X9_203 F hS (fun _ h => h) hS.2.1 (tX9_replace l G A q hq h10) hP (x_recv (ci := 7) F hP rfl (by decide) (eM_0 G q _)) rfl hl.1 rfl ⟨Nat.le_of_ble_eq_true rfl, Nat.le_of_ble_eq_true rfl⟩ ⟨Nat.le_refl _, Nat.le_refl _⟩ (Nat.le_of_ble_eq_true rfl) dX9_actSmall_259 (fun H locs hP hS _ _ => ?_)
    refine lv_goto (tgt := 542) F.1 F.2.1 dX9_actSmall_262 (by decide) ?_
    cases hs
    exact x_vret F hP hS dX9_actSmall_542
  have hs := it_f c12 hs
  by_cases c13 : (x1) = 12
  · have hs := it_t c13 hs
    refine lv_tableIn (off := 519) (tgt := 537) F.1 F.2.1 dX9_actSmall_18 (by rw [c13]; decide) (by rw [c13]; decide) (by rw [c13]; rfl) (by decide) ?_
    refine lv_aload_n F.1 F.2.1 dX9_actSmall_537 rfl (lv_at hl 1 rfl) ?_
    refine lv_iconst (v := 1) F.1 F.2.1 dX9_actSmall_538 rfl ?_
    obtain ⟨M11, h11, hs⟩ := bn_some hs
    refine x_callV (rest := []) wv_X9_167 F hS (fun _ h => h) hS.2.1 (tX9_on l G A q hq h11) hP (x_recv (ci := 7) F hP rfl (by decide) (eM_0 G q _)) rfl hl.1 rfl ⟨Nat.le_of_ble_eq_true rfl, Nat.le_of_ble_eq_true rfl⟩ ⟨Nat.le_refl _, Nat.le_refl _⟩ (Nat.le_of_ble_eq_true rfl) dX9_actSmall_539 (fun H locs hP hS _ _ => ?_)
    cases hs
    exact x_vret F hP hS dX9_actSmall_542
  have hs := it_f c13 hs
  by_cases c14 : (x1) = 13
  · have hs := it_t c14 hs
    refine lv_tableIn (off := 519) (tgt := 537) F.1 F.2.1 dX9_actSmall_18 (by rw [c14]; decide) (by rw [c14]; decide) (by rw [c14]; rfl) (by decide) ?_
    refine lv_aload_n F.1 F.2.1 dX9_actSmall_537 rfl (lv_at hl 1 rfl) ?_
    refine lv_iconst (v := 1) F.1 F.2.1 dX9_actSmall_538 rfl ?_
    obtain ⟨M12, h12, hs⟩ := bn_some hs
    refine x_callV (rest := []) wv_X9_167 F hS (fun _ h => h) hS.2.1 (tX9_on l G A q hq h12) hP (x_recv (ci := 7) F hP rfl (by decide) (eM_0 G q _)) rfl hl.1 rfl ⟨Nat.le_of_ble_eq_true rfl, Nat.le_of_ble_eq_true rfl⟩ ⟨Nat.le_refl _, Nat.le_refl _⟩ (Nat.le_of_ble_eq_true rfl) dX9_actSmall_539 (fun H locs hP hS _ _ => ?_)
    cases hs
    exact x_vret F hP hS dX9_actSmall_542
  have hs := it_f c14 hs
  by_cases c15 : (x1) = 14
  · have hs := it_t c15 hs
    refine lv_tableIn (off := 519) (tgt := 537) F.1 F.2.1 dX9_actSmall_18 (by rw [c15]; decide) (by rw [c15]; decide) (by rw [c15]; rfl) (by decide) ?_
    refine lv_aload_n F.1 F.2.1 dX9_actSmall_537 rfl (lv_at hl 1 rfl) ?_
    refine lv_iconst (v := 1) F.1 F.2.1 dX9_actSmall_538 rfl ?_
    obtain ⟨M13, h13, hs⟩ := bn_some hs
    refine x_callV (rest := []) wv_X9_167 F hS (fun _ h => h) hS.2.1 (tX9_on l G A q hq h13) hP (x_recv (ci := 7) F hP rfl (by decide) (eM_0 G q _)) rfl hl.1 rfl ⟨Nat.le_of_ble_eq_true rfl, Nat.le_of_ble_eq_true rfl⟩ ⟨Nat.le_refl _, Nat.le_refl _⟩ (Nat.le_of_ble_eq_true rfl) dX9_actSmall_539 (fun H locs hP hS _ _ => ?_)
    cases hs
    exact x_vret F hP hS dX9_actSmall_542
  have hs := it_f c15 hs
  by_cases c16 : (x1) = 15
  · have hs := it_t c16 hs
    refine lv_tableIn (off := 519) (tgt := 537) F.1 F.2.1 dX9_actSmall_18 (by rw [c16]; decide) (by rw [c16]; decide) (by rw [c16]; rfl) (by decide) ?_
    refine lv_aload_n F.1 F.2.1 dX9_actSmall_537 rfl (lv_at hl 1 rfl) ?_
    refine lv_iconst (v := 1) F.1 F.2.1 dX9_actSmall_538 rfl ?_
    obtain ⟨M14, h14, hs⟩ := bn_some hs
    refine x_callV (rest := []) wv_X9_167 F hS (fun _ h => h) hS.2.1 (tX9_on l G A q hq h14) hP (x_recv (ci := 7) F hP rfl (by decide) (eM_0 G q _)) rfl hl.1 rfl ⟨Nat.le_of_ble_eq_true rfl, Nat.le_of_ble_eq_true rfl⟩ ⟨Nat.le_refl _, Nat.le_refl _⟩ (Nat.le_of_ble_eq_true rfl) dX9_actSmall_539 (fun H locs hP hS _ _ => ?_)
    cases hs
    exact x_vret F hP hS dX9_actSmall_542
  have hs := it_f c16 hs
  by_cases c17 : (x1) = 16
  · have hs := it_t c17 hs
    refine lv_tableIn (off := 519) (tgt := 537) F.1 F.2.1 dX9_actSmall_18 (by rw [c17]; decide) (by rw [c17]; decide) (by rw [c17]; rfl) (by decide) ?_
    refine lv_aload_n F.1 F.2.1 dX9_actSmall_537 rfl (lv_at hl 1 rfl) ?_
    refine lv_iconst (v := 1) F.1 F.2.1 dX9_actSmall_538 rfl ?_
    obtain ⟨M15, h15, hs⟩ := bn_some hs
    refine x_callV (rest := []) wv_X9_167 F hS (fun _ h => h) hS.2.1 (tX9_on l G A q hq h15) hP (x_recv (ci := 7) F hP rfl (by decide) (eM_0 G q _)) rfl hl.1 rfl ⟨Nat.le_of_ble_eq_true rfl, Nat.le_of_ble_eq_true rfl⟩ ⟨Nat.le_refl _, Nat.le_refl _⟩ (Nat.le_of_ble_eq_true rfl) dX9_actSmall_539 (fun H locs hP hS _ _ => ?_)
    cases hs
    exact x_vret F hP hS dX9_actSmall_542
  have hs := it_f c17 hs
  by_cases c18 : (x1) = 17
  · have hs := it_t c18 hs
    refine lv_tableIn (off := 519) (tgt := 537) F.1 F.2.1 dX9_actSmall_18 (by rw [c18]; decide) (by rw [c18]; decide) (by rw [c18]; rfl) (by decide) ?_
    refine lv_aload_n F.1 F.2.1 dX9_actSmall_537 rfl (lv_at hl 1 rfl) ?_
    refine lv_iconst (v := 1) F.1 F.2.1 dX9_actSmall_538 rfl ?_
    obtain ⟨M16, h16, hs⟩ := bn_some hs
    refine x_callV (rest := []) wv_X9_167 F hS (fun _ h => h) hS.2.1 (tX9_on l G A q hq h16) hP (x_recv (ci := 7) F hP rfl (by decide) (eM_0 G q _)) rfl hl.1 rfl ⟨Nat.le_of_ble_eq_true rfl, Nat.le_of_ble_eq_true rfl⟩ ⟨Nat.le_refl _, Nat.le_refl _⟩ (Nat.le_of_ble_eq_true rfl) dX9_actSmall_539 (fun H locs hP hS _ _ => ?_)
    cases hs
    exact x_vret F hP hS dX9_actSmall_542
  have hs := it_f c18 hs
  by_cases c19 : (x1) = 18
  · have hs := it_t c19 hs
    refine lv_tableIn (off := 247) (tgt := 265) F.1 F.2.1 dX9_actSmall_18 (by rw [c19]; decide) (by rw [c19]; decide) (by rw [c19]; rfl) (by decide) ?_
    refine lv_aload_n F.1 F.2.1 dX9_actSmall_265 rfl (lv_at hl 1 rfl) ?_
    refine lv_iconst (v := 0) F.1 F.2.1 dX9_actSmall_266 rfl ?_
    refine lv_iload_n F.1 F.2.1 dX9_actSmall_267 rfl (lv_at hl 0 rfl) ?_
    obtain ⟨M17, h17, hs⟩ := bn_some hs
    refine x_callV (rest := []) wv_X9_203 F hS (fun _ h => h) hS.2.1 (tX9_replace l G A q hq h17) hP (x_recv (ci := 7) F hP rfl (by decide) (eM_0 G q _)) rfl hl.1 rfl ⟨Nat.le_of_ble_eq_true rfl, Nat.le_of_ble_eq_true rfl⟩ ⟨Nat.le_refl _, Nat.le_refl _⟩ (Nat.le_of_ble_eq_true rfl) dX9_actSmall_268 (fun H locs hP hS _ _ => ?_)
    refine lv_goto (tgt := 542) F.1 F.2.1 dX9_actSmall_271 (by decide) ?_
    cases hs
    exact x_vret F hP hS dX9_actSmall_542
  have hs := it_f c19 hs
  by_cases c20 : (x1) = 19
  · have hs := it_t c20 hs
    refine lv_tableIn (off := 256) (tgt := 274) F.1 F.2.1 dX9_actSmall_18 (by rw [c20]; decide) (by rw [c20]; decide) (by rw [c20]; rfl) (by decide) ?_
    refine lv_aload_n F.1 F.2.1 dX9_actSmall_274 rfl (lv_at hl 1 rfl) ?_
    refine lv_iconst (v := 1) F.1 F.2.1 dX9_actSmall_275 rfl ?_
    obtain ⟨M18, h18, hs⟩ := bn_some hs
    refine x_callV (rest := []) wv_X9_170 F hS (fun _ h => h) hS.2.1 (tX9_drop l G A q hq h18) hP (x_recv (ci := 7) F hP rfl (by decide) (eM_0 G q _)) rfl hl.1 rfl ⟨Nat.le_of_ble_eq_true rfl, Nat.le_of_ble_eq_true rfl⟩ ⟨Nat.le_refl _, Nat.le_refl _⟩ (Nat.le_of_ble_eq_true rfl) dX9_actSmall_276 (fun H locs hP hS _ _ => ?_)
    refine lv_aload_n F.1 F.2.1 dX9_actSmall_279 rfl (lv_at hl 1 rfl) ?_
    refine lv_iconst (v := 1) F.1 F.2.1 dX9_actSmall_280 rfl ?_
    obtain ⟨M19, h19, hs⟩ := bn_some hs
    refine x_callV (rest := []) wv_X9_167 F hS (fun _ h => h) hS.2.1 (tX9_on l G A q hq h19) hP (x_recv (ci := 7) F hP rfl (by decide) (eM_0 G q _)) rfl hl.1 rfl ⟨Nat.le_of_ble_eq_true rfl, Nat.le_of_ble_eq_true rfl⟩ ⟨Nat.le_refl _, Nat.le_refl _⟩ (Nat.le_of_ble_eq_true rfl) dX9_actSmall_281 (fun H locs hP hS _ _ => ?_)
    refine lv_goto (tgt := 542) F.1 F.2.1 dX9_actSmall_284 (by decide) ?_
    cases hs
    exact x_vret F hP hS dX9_actSmall_542
  have hs := it_f c20 hs
  by_cases c21 : (x1) = 20
  · have hs := it_t c21 hs
    refine lv_tableIn (off := 269) (tgt := 287) F.1 F.2.1 dX9_actSmall_18 (by rw [c21]; decide) (by rw [c21]; decide) (by rw [c21]; rfl) (by decide) ?_
    refine lv_aload_n F.1 F.2.1 dX9_actSmall_287 rfl (lv_at hl 1 rfl) ?_
    refine lv_iconst (v := 1) F.1 F.2.1 dX9_actSmall_288 rfl ?_
    obtain ⟨r1, h20, hs⟩ := bn_some hs
    refine x_callI (rest := []) wv_X9_121 F hS (fun _ h => h) hS.2.1 (tX9_at l G A q hq h20) hP (x_recv (ci := 7) F hP rfl (by decide) (eM_0 G q _)) rfl hl.1 rfl ⟨Nat.le_of_ble_eq_true rfl, Nat.le_of_ble_eq_true rfl⟩ ⟨Nat.le_refl _, Nat.le_refl _⟩ (Nat.le_of_ble_eq_true rfl) dX9_actSmall_289 (fun H locs hP hS _ _ => ?_)
    refine lv_istore (lv' := [(4, .int r1), (2, .int t0), (0, .ref (q 0)), (1, .int x1)]) F.1 F.2.1 dX9_actSmall_292 hl (by decide) rfl (fun ls hl => ?_)
    refine lv_aload_n F.1 F.2.1 dX9_actSmall_294 rfl (lv_at hl 2 rfl) ?_
    refine lv_iconst (v := 2) F.1 F.2.1 dX9_actSmall_295 rfl ?_
    obtain ⟨M20, h21, hs⟩ := bn_some hs
    refine x_callV (rest := []) wv_X9_170 F hS (fun _ h => h) hS.2.1 (tX9_drop l G A q hq h21) hP (x_recv (ci := 7) F hP rfl (by decide) (eM_0 G q _)) rfl hl.1 rfl ⟨Nat.le_of_ble_eq_true rfl, Nat.le_of_ble_eq_true rfl⟩ ⟨Nat.le_refl _, Nat.le_refl _⟩ (Nat.le_of_ble_eq_true rfl) dX9_actSmall_296 (fun H locs hP hS _ _ => ?_)
    refine lv_aload_n F.1 F.2.1 dX9_actSmall_299 rfl (lv_at hl 2 rfl) ?_
    refine lv_iload_n F.1 F.2.1 dX9_actSmall_300 rfl (lv_at hl 1 rfl) ?_
    obtain ⟨M21, h22, hs⟩ := bn_some hs
    refine x_callV (rest := []) wv_X9_153 F hS (fun _ h => h) hS.2.1 (tX9_put l G A q hq h22) hP (x_recv (ci := 7) F hP rfl (by decide) (eM_0 G q _)) rfl hl.1 rfl ⟨Nat.le_of_ble_eq_true rfl, Nat.le_of_ble_eq_true rfl⟩ ⟨Nat.le_refl _, Nat.le_refl _⟩ (Nat.le_of_ble_eq_true rfl) dX9_actSmall_301 (fun H locs hP hS _ _ => ?_)
    refine lv_aload_n F.1 F.2.1 dX9_actSmall_304 rfl (lv_at hl 2 rfl) ?_
    refine lv_iload F.1 F.2.1 dX9_actSmall_305 (lv_at hl 0 rfl) ?_
    obtain ⟨M22, h23, hs⟩ := bn_some hs
    refine x_callV (rest := []) wv_X9_153 F hS (fun _ h => h) hS.2.1 (tX9_put l G A q hq h23) hP (x_recv (ci := 7) F hP rfl (by decide) (eM_0 G q _)) rfl hl.1 rfl ⟨Nat.le_of_ble_eq_true rfl, Nat.le_of_ble_eq_true rfl⟩ ⟨Nat.le_refl _, Nat.le_refl _⟩ (Nat.le_of_ble_eq_true rfl) dX9_actSmall_307 (fun H locs hP hS _ _ => ?_)
    refine lv_aload_n F.1 F.2.1 dX9_actSmall_310 rfl (lv_at hl 2 rfl) ?_
    refine lv_iconst (v := 1) F.1 F.2.1 dX9_actSmall_311 rfl ?_
    obtain ⟨M23, h24, hs⟩ := bn_some hs
    refine x_callV (rest := []) wv_X9_167 F hS (fun _ h => h) hS.2.1 (tX9_on l G A q hq h24) hP (x_recv (ci := 7) F hP rfl (by decide) (eM_0 G q _)) rfl hl.1 rfl ⟨Nat.le_of_ble_eq_true rfl, Nat.le_of_ble_eq_true rfl⟩ ⟨Nat.le_refl _, Nat.le_refl _⟩ (Nat.le_of_ble_eq_true rfl) dX9_actSmall_312 (fun H locs hP hS _ _ => ?_)
    refine lv_goto (tgt := 542) F.1 F.2.1 dX9_actSmall_315 (by decide) ?_
    cases hs
    exact x_vret F hP hS dX9_actSmall_542
  have hs := it_f c21 hs
  by_cases c22 : (x1) = 21
  · have hs := it_t c22 hs
    refine lv_tableIn (off := 519) (tgt := 537) F.1 F.2.1 dX9_actSmall_18 (by rw [c22]; decide) (by rw [c22]; decide) (by rw [c22]; rfl) (by decide) ?_
    refine lv_aload_n F.1 F.2.1 dX9_actSmall_537 rfl (lv_at hl 1 rfl) ?_
    refine lv_iconst (v := 1) F.1 F.2.1 dX9_actSmall_538 rfl ?_
    obtain ⟨M24, h25, hs⟩ := bn_some hs
    refine x_callV (rest := []) wv_X9_167 F hS (fun _ h => h) hS.2.1 (tX9_on l G A q hq h25) hP (x_recv (ci := 7) F hP rfl (by decide) (eM_0 G q _)) rfl hl.1 rfl ⟨Nat.le_of_ble_eq_true rfl, Nat.le_of_ble_eq_true rfl⟩ ⟨Nat.le_refl _, Nat.le_refl _⟩ (Nat.le_of_ble_eq_true rfl) dX9_actSmall_539 (fun H locs hP hS _ _ => ?_)
    cases hs
    exact x_vret F hP hS dX9_actSmall_542
  have hs := it_f c22 hs
  by_cases c23 : (x1) = 22
  · have hs := it_t c23 hs
    refine lv_tableIn (off := 519) (tgt := 537) F.1 F.2.1 dX9_actSmall_18 (by rw [c23]; decide) (by rw [c23]; decide) (by rw [c23]; rfl) (by decide) ?_
    refine lv_aload_n F.1 F.2.1 dX9_actSmall_537 rfl (lv_at hl 1 rfl) ?_
    refine lv_iconst (v := 1) F.1 F.2.1 dX9_actSmall_538 rfl ?_
    obtain ⟨M25, h26, hs⟩ := bn_some hs
    refine x_callV (rest := []) wv_X9_167 F hS (fun _ h => h) hS.2.1 (tX9_on l G A q hq h26) hP (x_recv (ci := 7) F hP rfl (by decide) (eM_0 G q _)) rfl hl.1 rfl ⟨Nat.le_of_ble_eq_true rfl, Nat.le_of_ble_eq_true rfl⟩ ⟨Nat.le_refl _, Nat.le_refl _⟩ (Nat.le_of_ble_eq_true rfl) dX9_actSmall_539 (fun H locs hP hS _ _ => ?_)
    cases hs
    exact x_vret F hP hS dX9_actSmall_542
  have hs := it_f c23 hs
  by_cases c24 : (x1) = 23
  · have hs := it_t c24 hs
    refine lv_tableIn (off := 519) (tgt := 537) F.1 F.2.1 dX9_actSmall_18 (by rw [c24]; decide) (by rw [c24]; decide) (by rw [c24]; rfl) (by decide) ?_
    refine lv_aload_n F.1 F.2.1 dX9_actSmall_537 rfl (lv_at hl 1 rfl) ?_
    refine lv_iconst (v := 1) F.1 F.2.1 dX9_actSmall_538 rfl ?_
    obtain ⟨M26, h27, hs⟩ := bn_some hs
    refine x_callV (rest := []) wv_X9_167 F hS (fun _ h => h) hS.2.1 (tX9_on l G A q hq h27) hP (x_recv (ci := 7) F hP rfl (by decide) (eM_0 G q _)) rfl hl.1 rfl ⟨Nat.le_of_ble_eq_true rfl, Nat.le_of_ble_eq_true rfl⟩ ⟨Nat.le_refl _, Nat.le_refl _⟩ (Nat.le_of_ble_eq_true rfl) dX9_actSmall_539 (fun H locs hP hS _ _ => ?_)
    cases hs
    exact x_vret F hP hS dX9_actSmall_542
  have hs := it_f c24 hs
  by_cases c25 : (x1) = 24
  · have hs := it_t c25 hs
    refine lv_tableIn (off := 519) (tgt := 537) F.1 F.2.1 dX9_actSmall_18 (by rw [c25]; decide) (by rw [c25]; decide) (by rw [c25]; rfl) (by decide) ?_
    refine lv_aload_n F.1 F.2.1 dX9_actSmall_537 rfl (lv_at hl 1 rfl) ?_
    refine lv_iconst (v := 1) F.1 F.2.1 dX9_actSmall_538 rfl ?_
    obtain ⟨M27, h28, hs⟩ := bn_some hs
    refine x_callV (rest := []) wv_X9_167 F hS (fun _ h => h) hS.2.1 (tX9_on l G A q hq h28) hP (x_recv (ci := 7) F hP rfl (by decide) (eM_0 G q _)) rfl hl.1 rfl ⟨Nat.le_of_ble_eq_true rfl, Nat.le_of_ble_eq_true rfl⟩ ⟨Nat.le_refl _, Nat.le_refl _⟩ (Nat.le_of_ble_eq_true rfl) dX9_actSmall_539 (fun H locs hP hS _ _ => ?_)
    cases hs
    exact x_vret F hP hS dX9_actSmall_542
  have hs := it_f c25 hs
  by_cases c26 : (x1) = 25
  · have hs := it_t c26 hs
    refine lv_tableIn (off := 519) (tgt := 537) F.1 F.2.1 dX9_actSmall_18 (by rw [c26]; decide) (by rw [c26]; decide) (by rw [c26]; rfl) (by decide) ?_
    refine lv_aload_n F.1 F.2.1 dX9_actSmall_537 rfl (lv_at hl 1 rfl) ?_
    refine lv_iconst (v := 1) F.1 F.2.1 dX9_actSmall_538 rfl ?_
    obtain ⟨M28, h29, hs⟩ := bn_some hs
    refine x_callV (rest := []) wv_X9_167 F hS (fun _ h => h) hS.2.1 (tX9_on l G A q hq h29) hP (x_recv (ci := 7) F hP rfl (by decide) (eM_0 G q _)) rfl hl.1 rfl ⟨Nat.le_of_ble_eq_true rfl, Nat.le_of_ble_eq_true rfl⟩ ⟨Nat.le_refl _, Nat.le_refl _⟩ (Nat.le_of_ble_eq_true rfl) dX9_actSmall_539 (fun H locs hP hS _ _ => ?_)
    cases hs
    exact x_vret F hP hS dX9_actSmall_542
  have hs := it_f c26 hs
  by_cases c27 : (x1) = 26
  · have hs := it_t c27 hs
    refine lv_tableIn (off := 519) (tgt := 537) F.1 F.2.1 dX9_actSmall_18 (by rw [c27]; decide) (by rw [c27]; decide) (by rw [c27]; rfl) (by decide) ?_
    refine lv_aload_n F.1 F.2.1 dX9_actSmall_537 rfl (lv_at hl 1 rfl) ?_
    refine lv_iconst (v := 1) F.1 F.2.1 dX9_actSmall_538 rfl ?_
    obtain ⟨M29, h30, hs⟩ := bn_some hs
    refine x_callV (rest := []) wv_X9_167 F hS (fun _ h => h) hS.2.1 (tX9_on l G A q hq h30) hP (x_recv (ci := 7) F hP rfl (by decide) (eM_0 G q _)) rfl hl.1 rfl ⟨Nat.le_of_ble_eq_true rfl, Nat.le_of_ble_eq_true rfl⟩ ⟨Nat.le_refl _, Nat.le_refl _⟩ (Nat.le_of_ble_eq_true rfl) dX9_actSmall_539 (fun H locs hP hS _ _ => ?_)
    cases hs
    exact x_vret F hP hS dX9_actSmall_542
  have hs := it_f c27 hs
  by_cases c28 : (x1) = 27
  · have hs := it_t c28 hs
    refine lv_tableIn (off := 519) (tgt := 537) F.1 F.2.1 dX9_actSmall_18 (by rw [c28]; decide) (by rw [c28]; decide) (by rw [c28]; rfl) (by decide) ?_
    refine lv_aload_n F.1 F.2.1 dX9_actSmall_537 rfl (lv_at hl 1 rfl) ?_
    refine lv_iconst (v := 1) F.1 F.2.1 dX9_actSmall_538 rfl ?_
    obtain ⟨M30, h31, hs⟩ := bn_some hs
    refine x_callV (rest := []) wv_X9_167 F hS (fun _ h => h) hS.2.1 (tX9_on l G A q hq h31) hP (x_recv (ci := 7) F hP rfl (by decide) (eM_0 G q _)) rfl hl.1 rfl ⟨Nat.le_of_ble_eq_true rfl, Nat.le_of_ble_eq_true rfl⟩ ⟨Nat.le_refl _, Nat.le_refl _⟩ (Nat.le_of_ble_eq_true rfl) dX9_actSmall_539 (fun H locs hP hS _ _ => ?_)
    cases hs
    exact x_vret F hP hS dX9_actSmall_542
  have hs := it_f c28 hs
  by_cases c29 : (x1) = 28
  · have hs := it_t c29 hs
    refine lv_tableIn (off := 519) (tgt := 537) F.1 F.2.1 dX9_actSmall_18 (by rw [c29]; decide) (by rw [c29]; decide) (by rw [c29]; rfl) (by decide) ?_
    refine lv_aload_n F.1 F.2.1 dX9_actSmall_537 rfl (lv_at hl 1 rfl) ?_
    refine lv_iconst (v := 1) F.1 F.2.1 dX9_actSmall_538 rfl ?_
    obtain ⟨M31, h32, hs⟩ := bn_some hs
    refine x_callV (rest := []) wv_X9_167 F hS (fun _ h => h) hS.2.1 (tX9_on l G A q hq h32) hP (x_recv (ci := 7) F hP rfl (by decide) (eM_0 G q _)) rfl hl.1 rfl ⟨Nat.le_of_ble_eq_true rfl, Nat.le_of_ble_eq_true rfl⟩ ⟨Nat.le_refl _, Nat.le_refl _⟩ (Nat.le_of_ble_eq_true rfl) dX9_actSmall_539 (fun H locs hP hS _ _ => ?_)
    cases hs
    exact x_vret F hP hS dX9_actSmall_542
  have hs := it_f c29 hs
  by_cases c30 : (x1) = 29
  · have hs := it_t c30 hs
    refine lv_tableIn (off := 519) (tgt := 537) F.1 F.2.1 dX9_actSmall_18 (by rw [c30]; decide) (by rw [c30]; decide) (by rw [c30]; rfl) (by decide) ?_
    refine lv_aload_n F.1 F.2.1 dX9_actSmall_537 rfl (lv_at hl 1 rfl) ?_
    refine lv_iconst (v := 1) F.1 F.2.1 dX9_actSmall_538 rfl ?_
    obtain ⟨M32, h33, hs⟩ := bn_some hs
    refine x_callV (rest := []) wv_X9_167 F hS (fun _ h => h) hS.2.1 (tX9_on l G A q hq h33) hP (x_recv (ci := 7) F hP rfl (by decide) (eM_0 G q _)) rfl hl.1 rfl ⟨Nat.le_of_ble_eq_true rfl, Nat.le_of_ble_eq_true rfl⟩ ⟨Nat.le_refl _, Nat.le_refl _⟩ (Nat.le_of_ble_eq_true rfl) dX9_actSmall_539 (fun H locs hP hS _ _ => ?_)
    cases hs
    exact x_vret F hP hS dX9_actSmall_542
  have hs := it_f c30 hs
  by_cases c31 : (x1) = 30
  · have hs := it_t c31 hs
    refine lv_tableIn (off := 300) (tgt := 318) F.1 F.2.1 dX9_actSmall_18 (by rw [c31]; decide) (by rw [c31]; decide) (by rw [c31]; rfl) (by decide) ?_
    refine lv_aload_n F.1 F.2.1 dX9_actSmall_318 rfl (lv_at hl 1 rfl) ?_
    refine lv_iconst (v := 2) F.1 F.2.1 dX9_actSmall_319 rfl ?_
    refine lv_aload_n F.1 F.2.1 dX9_actSmall_320 rfl (lv_at hl 1 rfl) ?_
    refine gM_X9_35 F hP dX9_actSmall_321 ?_
    refine lv_aload_n F.1 F.2.1 dX9_actSmall_324 rfl (lv_at hl 1 rfl) ?_
    refine gM_X9_32 F hP dX9_actSmall_325 ?_
    refine lv_aload_n F.1 F.2.1 dX9_actSmall_328 rfl (lv_at hl 1 rfl) ?_
    refine lv_iconst (v := 1) F.1 F.2.1 dX9_actSmall_329 rfl ?_
    obtain ⟨r2, h34, hs⟩ := bn_some hs
    refine x_callI (rest := [.ref (q 8), .ref (q 9), .int 2, .ref (q 0)]) wv_X9_121 F hS (fun _ h => h) hS.2.1 (tX9_at l G A q hq h34) hP (x_recv (ci := 7) F hP rfl (by decide) (eM_0 G q _)) rfl hl.1 rfl ⟨Nat.le_of_ble_eq_true rfl, Nat.le_of_ble_eq_true rfl⟩ ⟨Nat.le_refl _, Nat.le_refl _⟩ (Nat.le_of_ble_eq_true rfl) dX9_actSmall_330 (fun H locs hP hS _ _ => ?_)
    obtain ⟨g1, hs⟩ := gd_some hs
    refine x_iald F hP (arM_8 G q) g1 dX9_actSmall_333 ?_
    refine lv_iload_n F.1 F.2.1 dX9_actSmall_334 rfl (lv_at hl 0 rfl) ?_
    refine lv_iadd F.1 F.2.1 dX9_actSmall_335 ?_
    obtain ⟨g2, hs⟩ := gd_some hs
    refine x_iald F hP (arM_9 G q) g2 dX9_actSmall_336 ?_
    obtain ⟨M33, h35, hs⟩ := bn_some hs
    refine x_callV (rest := []) wv_X9_203 F hS (fun _ h => h) hS.2.1 (tX9_replace l G A q hq h35) hP (x_recv (ci := 7) F hP rfl (by decide) (eM_0 G q _)) rfl hl.1 rfl ⟨Nat.le_of_ble_eq_true rfl, Nat.le_of_ble_eq_true rfl⟩ ⟨Nat.le_refl _, Nat.le_refl _⟩ (Nat.le_of_ble_eq_true rfl) dX9_actSmall_337 (fun H locs hP hS _ _ => ?_)
    refine lv_goto (tgt := 542) F.1 F.2.1 dX9_actSmall_340 (by decide) ?_
    cases hs
    exact x_vret F hP hS dX9_actSmall_542
  have hs := it_f c31 hs
  by_cases c32 : (x1) = 31
  · have hs := it_t c32 hs
    refine lv_tableIn (off := 519) (tgt := 537) F.1 F.2.1 dX9_actSmall_18 (by rw [c32]; decide) (by rw [c32]; decide) (by rw [c32]; rfl) (by decide) ?_
    refine lv_aload_n F.1 F.2.1 dX9_actSmall_537 rfl (lv_at hl 1 rfl) ?_
    refine lv_iconst (v := 1) F.1 F.2.1 dX9_actSmall_538 rfl ?_
    obtain ⟨M34, h36, hs⟩ := bn_some hs
    refine x_callV (rest := []) wv_X9_167 F hS (fun _ h => h) hS.2.1 (tX9_on l G A q hq h36) hP (x_recv (ci := 7) F hP rfl (by decide) (eM_0 G q _)) rfl hl.1 rfl ⟨Nat.le_of_ble_eq_true rfl, Nat.le_of_ble_eq_true rfl⟩ ⟨Nat.le_refl _, Nat.le_refl _⟩ (Nat.le_of_ble_eq_true rfl) dX9_actSmall_539 (fun H locs hP hS _ _ => ?_)
    cases hs
    exact x_vret F hP hS dX9_actSmall_542
  have hs := it_f c32 hs
  by_cases c33 : (x1) = 32
  · have hs := it_t c33 hs
    refine lv_tableIn (off := 325) (tgt := 343) F.1 F.2.1 dX9_actSmall_18 (by rw [c33]; decide) (by rw [c33]; decide) (by rw [c33]; rfl) (by decide) ?_
    refine lv_aload_n F.1 F.2.1 dX9_actSmall_343 rfl (lv_at hl 1 rfl) ?_
    refine lv_iconst (v := 1) F.1 F.2.1 dX9_actSmall_344 rfl ?_
    refine lv_aload_n F.1 F.2.1 dX9_actSmall_345 rfl (lv_at hl 1 rfl) ?_
    refine gM_X9_29 F hP dX9_actSmall_346 ?_
    refine lv_iload_n F.1 F.2.1 dX9_actSmall_349 rfl (lv_at hl 0 rfl) ?_
    obtain ⟨g3, hs⟩ := gd_some hs
    refine x_iald F hP (arM_7 G q) g3 dX9_actSmall_350 ?_
    obtain ⟨M35, h37, hs⟩ := bn_some hs
    refine x_callV (rest := []) wv_X9_203 F hS (fun _ h => h) hS.2.1 (tX9_replace l G A q hq h37) hP (x_recv (ci := 7) F hP rfl (by decide) (eM_0 G q _)) rfl hl.1 rfl ⟨Nat.le_of_ble_eq_true rfl, Nat.le_of_ble_eq_true rfl⟩ ⟨Nat.le_refl _, Nat.le_refl _⟩ (Nat.le_of_ble_eq_true rfl) dX9_actSmall_351 (fun H locs hP hS _ _ => ?_)
    refine lv_goto (tgt := 542) F.1 F.2.1 dX9_actSmall_354 (by decide) ?_
    cases hs
    exact x_vret F hP hS dX9_actSmall_542
  have hs := it_f c33 hs
  by_cases c34 : (x1) = 33
  · have hs := it_t c34 hs
    refine lv_tableIn (off := 339) (tgt := 357) F.1 F.2.1 dX9_actSmall_18 (by rw [c34]; decide) (by rw [c34]; decide) (by rw [c34]; rfl) (by decide) ?_
    refine lv_aload_n F.1 F.2.1 dX9_actSmall_357 rfl (lv_at hl 1 rfl) ?_
    refine lv_iconst (v := 0) F.1 F.2.1 dX9_actSmall_358 rfl ?_
    refine lv_aload_n F.1 F.2.1 dX9_actSmall_359 rfl (lv_at hl 1 rfl) ?_
    refine gM_X9_58 F hP dX9_actSmall_360 ?_
    refine lv_aload_n F.1 F.2.1 dX9_actSmall_363 rfl (lv_at hl 1 rfl) ?_
    obtain ⟨r3, h38, hs⟩ := bn_some hs
    refine x_callI (rest := [.ref (q 14), .int 0, .ref (q 0)]) wv_X9_101 F hS (fun _ h => h) hS.2.1 (tX9_top l G A q hq h38) hP (x_recv (ci := 7) F hP rfl (by decide) (eM_0 G q _)) rfl hl.1 rfl ⟨Nat.le_of_ble_eq_true rfl, Nat.le_of_ble_eq_true rfl⟩ ⟨Nat.le_refl _, Nat.le_refl _⟩ (Nat.le_of_ble_eq_true rfl) dX9_actSmall_364 (fun H locs hP hS _ _ => ?_)
    obtain ⟨g4, hs⟩ := gd_some hs
    refine x_iald F hP (arM_14 G q) g4 dX9_actSmall_367 ?_
    refine lv_iconst (v := 1) F.1 F.2.1 dX9_actSmall_368 rfl ?_
    refine lv_iadd F.1 F.2.1 dX9_actSmall_369 ?_
    obtain ⟨M36, h39, hs⟩ := bn_some hs
    refine x_callV (rest := []) wv_X9_203 F hS (fun _ h => h) hS.2.1 (tX9_replace l G A q hq h39) hP (x_recv (ci := 7) F hP rfl (by decide) (eM_0 G q _)) rfl hl.1 rfl ⟨Nat.le_of_ble_eq_true rfl, Nat.le_of_ble_eq_true rfl⟩ ⟨Nat.le_refl _, Nat.le_refl _⟩ (Nat.le_of_ble_eq_true rfl) dX9_actSmall_370 (fun H locs hP hS _ _ => ?_)
    refine lv_goto (tgt := 542) F.1 F.2.1 dX9_actSmall_373 (by decide) ?_
    cases hs
    exact x_vret F hP hS dX9_actSmall_542
  have hs := it_f c34 hs
  by_cases c35 : (x1) = 34
  · have hs := it_t c35 hs
    refine lv_tableIn (off := 358) (tgt := 376) F.1 F.2.1 dX9_actSmall_18 (by rw [c35]; decide) (by rw [c35]; decide) (by rw [c35]; rfl) (by decide) ?_
    refine lv_aload_n F.1 F.2.1 dX9_actSmall_376 rfl (lv_at hl 1 rfl) ?_
    refine lv_iconst (v := 1) F.1 F.2.1 dX9_actSmall_377 rfl ?_
    refine lv_aload_n F.1 F.2.1 dX9_actSmall_378 rfl (lv_at hl 1 rfl) ?_
    refine gM_X9_23 F hP dX9_actSmall_379 ?_
    refine lv_iload_n F.1 F.2.1 dX9_actSmall_382 rfl (lv_at hl 0 rfl) ?_
    obtain ⟨g5, hs⟩ := gd_some hs
    refine x_iald F hP (arM_5 G q) g5 dX9_actSmall_383 ?_
    obtain ⟨M37, h40, hs⟩ := bn_some hs
    refine x_callV (rest := []) wv_X9_203 F hS (fun _ h => h) hS.2.1 (tX9_replace l G A q hq h40) hP (x_recv (ci := 7) F hP rfl (by decide) (eM_0 G q _)) rfl hl.1 rfl ⟨Nat.le_of_ble_eq_true rfl, Nat.le_of_ble_eq_true rfl⟩ ⟨Nat.le_refl _, Nat.le_refl _⟩ (Nat.le_of_ble_eq_true rfl) dX9_actSmall_384 (fun H locs hP hS _ _ => ?_)
    refine lv_goto (tgt := 542) F.1 F.2.1 dX9_actSmall_387 (by decide) ?_
    cases hs
    exact x_vret F hP hS dX9_actSmall_542
  have hs := it_f c35 hs
  by_cases c36 : (x1) = 35
  · have hs := it_t c36 hs
    refine lv_tableIn (off := 519) (tgt := 537) F.1 F.2.1 dX9_actSmall_18 (by rw [c36]; decide) (by rw [c36]; decide) (by rw [c36]; rfl) (by decide) ?_
    refine lv_aload_n F.1 F.2.1 dX9_actSmall_537 rfl (lv_at hl 1 rfl) ?_
    refine lv_iconst (v := 1) F.1 F.2.1 dX9_actSmall_538 rfl ?_
    obtain ⟨M38, h41, hs⟩ := bn_some hs
    refine x_callV (rest := []) wv_X9_167 F hS (fun _ h => h) hS.2.1 (tX9_on l G A q hq h41) hP (x_recv (ci := 7) F hP rfl (by decide) (eM_0 G q _)) rfl hl.1 rfl ⟨Nat.le_of_ble_eq_true rfl, Nat.le_of_ble_eq_true rfl⟩ ⟨Nat.le_refl _, Nat.le_refl _⟩ (Nat.le_of_ble_eq_true rfl) dX9_actSmall_539 (fun H locs hP hS _ _ => ?_)
    cases hs
    exact x_vret F hP hS dX9_actSmall_542
  have hs := it_f c36 hs
  by_cases c37 : (x1) = 36
  · have hs := it_t c37 hs
    refine lv_tableIn (off := 519) (tgt := 537) F.1 F.2.1 dX9_actSmall_18 (by rw [c37]; decide) (by rw [c37]; decide) (by rw [c37]; rfl) (by decide) ?_
    refine lv_aload_n F.1 F.2.1 dX9_actSmall_537 rfl (lv_at hl 1 rfl) ?_
    refine lv_iconst (v := 1) F.1 F.2.1 dX9_actSmall_538 rfl ?_
    obtain ⟨M39, h42, hs⟩ := bn_some hs
    refine x_callV (rest := []) wv_X9_167 F hS (fun _ h => h) hS.2.1 (tX9_on l G A q hq h42) hP (x_recv (ci := 7) F hP rfl (by decide) (eM_0 G q _)) rfl hl.1 rfl ⟨Nat.le_of_ble_eq_true rfl, Nat.le_of_ble_eq_true rfl⟩ ⟨Nat.le_refl _, Nat.le_refl _⟩ (Nat.le_of_ble_eq_true rfl) dX9_actSmall_539 (fun H locs hP hS _ _ => ?_)
    cases hs
    exact x_vret F hP hS dX9_actSmall_542
  have hs := it_f c37 hs
  by_cases c38 : (x1) = 37
  · have hs := it_t c38 hs
    refine lv_tableIn (off := 519) (tgt := 537) F.1 F.2.1 dX9_actSmall_18 (by rw [c38]; decide) (by rw [c38]; decide) (by rw [c38]; rfl) (by decide) ?_
    refine lv_aload_n F.1 F.2.1 dX9_actSmall_537 rfl (lv_at hl 1 rfl) ?_
    refine lv_iconst (v := 1) F.1 F.2.1 dX9_actSmall_538 rfl ?_
    obtain ⟨M40, h43, hs⟩ := bn_some hs
    refine x_callV (rest := []) wv_X9_167 F hS (fun _ h => h) hS.2.1 (tX9_on l G A q hq h43) hP (x_recv (ci := 7) F hP rfl (by decide) (eM_0 G q _)) rfl hl.1 rfl ⟨Nat.le_of_ble_eq_true rfl, Nat.le_of_ble_eq_true rfl⟩ ⟨Nat.le_refl _, Nat.le_refl _⟩ (Nat.le_of_ble_eq_true rfl) dX9_actSmall_539 (fun H locs hP hS _ _ => ?_)
    cases hs
    exact x_vret F hP hS dX9_actSmall_542
  have hs := it_f c38 hs
  by_cases c39 : (x1) = 38
  · have hs := it_t c39 hs
    refine lv_tableIn (off := 519) (tgt := 537) F.1 F.2.1 dX9_actSmall_18 (by rw [c39]; decide) (by rw [c39]; decide) (by rw [c39]; rfl) (by decide) ?_
    refine lv_aload_n F.1 F.2.1 dX9_actSmall_537 rfl (lv_at hl 1 rfl) ?_
    refine lv_iconst (v := 1) F.1 F.2.1 dX9_actSmall_538 rfl ?_
    obtain ⟨M41, h44, hs⟩ := bn_some hs
    refine x_callV (rest := []) wv_X9_167 F hS (fun _ h => h) hS.2.1 (tX9_on l G A q hq h44) hP (x_recv (ci := 7) F hP rfl (by decide) (eM_0 G q _)) rfl hl.1 rfl ⟨Nat.le_of_ble_eq_true rfl, Nat.le_of_ble_eq_true rfl⟩ ⟨Nat.le_refl _, Nat.le_refl _⟩ (Nat.le_of_ble_eq_true rfl) dX9_actSmall_539 (fun H locs hP hS _ _ => ?_)
    cases hs
    exact x_vret F hP hS dX9_actSmall_542
  have hs := it_f c39 hs
  by_cases c40 : (x1) = 39
  · have hs := it_t c40 hs
    refine lv_tableIn (off := 372) (tgt := 390) F.1 F.2.1 dX9_actSmall_18 (by rw [c40]; decide) (by rw [c40]; decide) (by rw [c40]; rfl) (by decide) ?_
    refine lv_aload_n F.1 F.2.1 dX9_actSmall_390 rfl (lv_at hl 1 rfl) ?_
    refine lv_iconst (v := 0) F.1 F.2.1 dX9_actSmall_391 rfl ?_
    refine lv_aload_n F.1 F.2.1 dX9_actSmall_392 rfl (lv_at hl 1 rfl) ?_
    refine gM_X9_131 F hP dX9_actSmall_393 ?_
    refine lv_if_eq (tgt := 403) F.1 F.2.1 dX9_actSmall_396 (by decide) (fun c41 => ?_) (fun c41 => ?_)
    · have hs := it_t c41 hs
      refine lv_iconst (v := 0) F.1 F.2.1 dX9_actSmall_403 rfl ?_
      obtain ⟨M42, h45, hs⟩ := bn_some hs
      refine x_callV (rest := []) wv_X9_203 F hS (fun _ h => h) hS.2.1 (tX9_replace l G A q hq h45) hP (x_recv (ci := 7) F hP rfl (by decide) (eM_0 G q _)) rfl hl.1 rfl ⟨Nat.le_of_ble_eq_true rfl, Nat.le_of_ble_eq_true rfl⟩ ⟨Nat.le_refl _, Nat.le_refl _⟩ (Nat.le_of_ble_eq_true rfl) dX9_actSmall_404 (fun H locs hP hS _ _ => ?_)
      refine lv_goto (tgt := 542) F.1 F.2.1 dX9_actSmall_407 (by decide) ?_
      cases hs
      exact x_vret F hP hS dX9_actSmall_542
    have hs := it_f c41 hs
    refine lv_iconst (v := 1) F.1 F.2.1 dX9_actSmall_399 rfl ?_
    refine lv_goto (tgt := 404) F.1 F.2.1 dX9_actSmall_400 (by decide) ?_
    obtain ⟨M43, h46, hs⟩ := bn_some hs
    refine x_callV (rest := []) wv_X9_203 F hS (fun _ h => h) hS.2.1 (tX9_replace l G A q hq h46) hP (x_recv (ci := 7) F hP rfl (by decide) (eM_0 G q _)) rfl hl.1 rfl ⟨Nat.le_of_ble_eq_true rfl, Nat.le_of_ble_eq_true rfl⟩ ⟨Nat.le_refl _, Nat.le_refl _⟩ (Nat.le_of_ble_eq_true rfl) dX9_actSmall_404 (fun H locs hP hS _ _ => ?_)
    refine lv_goto (tgt := 542) F.1 F.2.1 dX9_actSmall_407 (by decide) ?_
    cases hs
    exact x_vret F hP hS dX9_actSmall_542
  have hs := it_f c40 hs
  by_cases c42 : (x1) = 40
  · have hs := it_t c42 hs
    refine lv_tableIn (off := 392) (tgt := 410) F.1 F.2.1 dX9_actSmall_18 (by rw [c42]; decide) (by rw [c42]; decide) (by rw [c42]; rfl) (by decide) ?_
    refine lv_aload_n F.1 F.2.1 dX9_actSmall_410 rfl (lv_at hl 1 rfl) ?_
    refine lv_iconst (v := 1) F.1 F.2.1 dX9_actSmall_411 rfl ?_
    refine lv_aload_n F.1 F.2.1 dX9_actSmall_412 rfl (lv_at hl 1 rfl) ?_
    refine gM_X9_52 F hP dX9_actSmall_413 ?_
    refine lv_iload_n F.1 F.2.1 dX9_actSmall_416 rfl (lv_at hl 0 rfl) ?_
    obtain ⟨g6, hs⟩ := gd_some hs
    refine x_iald F hP (arM_12 G q) g6 dX9_actSmall_417 ?_
    refine lv_i2b F.1 F.2.1 dX9_actSmall_418 rfl ?_
    obtain ⟨M44, h47, hs⟩ := bn_some hs
    refine x_callV (rest := []) wv_X9_203 F hS (fun _ h => h) hS.2.1 (tX9_replace l G A q hq h47) hP (x_recv (ci := 7) F hP rfl (by decide) (eM_0 G q _)) rfl hl.1 rfl ⟨Nat.le_of_ble_eq_true rfl, Nat.le_of_ble_eq_true rfl⟩ ⟨Nat.le_refl _, Nat.le_refl _⟩ (Nat.le_of_ble_eq_true rfl) dX9_actSmall_419 (fun H locs hP hS _ _ => ?_)
    refine lv_goto (tgt := 542) F.1 F.2.1 dX9_actSmall_422 (by decide) ?_
    cases hs
    exact x_vret F hP hS dX9_actSmall_542
  have hs := it_f c42 hs
  by_cases c43 : (x1) = 41
  · have hs := it_t c43 hs
    refine lv_tableIn (off := 407) (tgt := 425) F.1 F.2.1 dX9_actSmall_18 (by rw [c43]; decide) (by rw [c43]; decide) (by rw [c43]; rfl) (by decide) ?_
    refine lv_aload_n F.1 F.2.1 dX9_actSmall_425 rfl (lv_at hl 1 rfl) ?_
    refine lv_iconst (v := 0) F.1 F.2.1 dX9_actSmall_426 rfl ?_
    refine lv_aload_n F.1 F.2.1 dX9_actSmall_427 rfl (lv_at hl 1 rfl) ?_
    refine gM_X9_95 F hP dX9_actSmall_428 ?_
    obtain ⟨M45, h48, hs⟩ := bn_some hs
    refine x_callV (rest := []) wv_X9_203 F hS (fun _ h => h) hS.2.1 (tX9_replace l G A q hq h48) hP (x_recv (ci := 7) F hP rfl (by decide) (eM_0 G q _)) rfl hl.1 rfl ⟨Nat.le_of_ble_eq_true rfl, Nat.le_of_ble_eq_true rfl⟩ ⟨Nat.le_refl _, Nat.le_refl _⟩ (Nat.le_of_ble_eq_true rfl) dX9_actSmall_431 (fun H locs hP hS _ _ => ?_)
    refine lv_goto (tgt := 542) F.1 F.2.1 dX9_actSmall_434 (by decide) ?_
    cases hs
    exact x_vret F hP hS dX9_actSmall_542
  have hs := it_f c43 hs
  by_cases c44 : (x1) = 42
  · have hs := it_t c44 hs
    refine lv_tableIn (off := 419) (tgt := 437) F.1 F.2.1 dX9_actSmall_18 (by rw [c44]; decide) (by rw [c44]; decide) (by rw [c44]; rfl) (by decide) ?_
    refine lv_aload_n F.1 F.2.1 dX9_actSmall_437 rfl (lv_at hl 1 rfl) ?_
    refine gM_X9_55 F hP dX9_actSmall_438 ?_
    refine lv_aload_n F.1 F.2.1 dX9_actSmall_441 rfl (lv_at hl 1 rfl) ?_
    refine gM_X9_141 F hP dX9_actSmall_442 ?_
    refine lv_iload_n F.1 F.2.1 dX9_actSmall_445 rfl (lv_at hl 0 rfl) ?_
    refine lv_sipush (v := 255) F.1 F.2.1 dX9_actSmall_446 rfl ?_
    refine lv_iand F.1 F.2.1 dX9_actSmall_449 ?_
    obtain ⟨g7, hs⟩ := gd_some hs
    obtain ⟨M46, eM46, hs⟩ := lt_some hs
    refine x_iast F hq hP hS (arM_13 G q) g7 eM46 dX9_actSmall_450 (fun H locs hP hS => ?_)
    refine lv_aload_n F.1 F.2.1 dX9_actSmall_451 rfl (lv_at hl 1 rfl) ?_
    refine lv_dup F.1 F.2.1 dX9_actSmall_452 rfl ?_
    refine gM_X9_141 F hP dX9_actSmall_453 ?_
    refine lv_iconst (v := 1) F.1 F.2.1 dX9_actSmall_456 rfl ?_
    refine lv_iadd F.1 F.2.1 dX9_actSmall_457 ?_
    obtain ⟨M47, eM47, hs⟩ := lt_some hs
    refine hM_X9_141 F hq hP hS eM47 dX9_actSmall_458 (fun H locs hP hS => ?_)
    refine lv_aload_n F.1 F.2.1 dX9_actSmall_461 rfl (lv_at hl 1 rfl) ?_
    refine lv_iconst (v := 1) F.1 F.2.1 dX9_actSmall_462 rfl ?_
    obtain ⟨M48, h49, hs⟩ := bn_some hs
    refine x_callV (rest := []) wv_X9_170 F hS (fun _ h => h) hS.2.1 (tX9_drop l G A q hq h49) hP (x_recv (ci := 7) F hP rfl (by decide) (eM_0 G q _)) rfl hl.1 rfl ⟨Nat.le_of_ble_eq_true rfl, Nat.le_of_ble_eq_true rfl⟩ ⟨Nat.le_refl _, Nat.le_refl _⟩ (Nat.le_of_ble_eq_true rfl) dX9_actSmall_463 (fun H locs hP hS _ _ => ?_)
    refine lv_aload_n F.1 F.2.1 dX9_actSmall_466 rfl (lv_at hl 1 rfl) ?_
    refine lv_iconst (v := 1) F.1 F.2.1 dX9_actSmall_467 rfl ?_
    obtain ⟨M49, h50, hs⟩ := bn_some hs
    refine x_callV (rest := []) wv_X9_167 F hS (fun _ h => h) hS.2.1 (tX9_on l G A q hq h50) hP (x_recv (ci := 7) F hP rfl (by decide) (eM_0 G q _)) rfl hl.1 rfl ⟨Nat.le_of_ble_eq_true rfl, Nat.le_of_ble_eq_true rfl⟩ ⟨Nat.le_refl _, Nat.le_refl _⟩ (Nat.le_of_ble_eq_true rfl) dX9_actSmall_468 (fun H locs hP hS _ _ => ?_)
    refine lv_goto (tgt := 542) F.1 F.2.1 dX9_actSmall_471 (by decide) ?_
    cases hs
    exact x_vret F hP hS dX9_actSmall_542
  have hs := it_f c44 hs
  by_cases c45 : (x1) = 43
  · have hs := it_t c45 hs
    refine lv_tableIn (off := 456) (tgt := 474) F.1 F.2.1 dX9_actSmall_18 (by rw [c45]; decide) (by rw [c45]; decide) (by rw [c45]; rfl) (by decide) ?_
    refine lv_aload_n F.1 F.2.1 dX9_actSmall_474 rfl (lv_at hl 1 rfl) ?_
    refine lv_iload_n F.1 F.2.1 dX9_actSmall_475 rfl (lv_at hl 0 rfl) ?_
    obtain ⟨M50, h51, hs⟩ := bn_some hs
    refine x_callV (rest := []) wv_X9_185 F hS (fun _ h => h) hS.2.1 (tX9_throwIt l G A q hq h51) hP (x_recv (ci := 7) F hP rfl (by decide) (eM_0 G q _)) rfl hl.1 rfl ⟨Nat.le_of_ble_eq_true rfl, Nat.le_of_ble_eq_true rfl⟩ ⟨Nat.le_refl _, Nat.le_refl _⟩ (Nat.le_of_ble_eq_true rfl) dX9_actSmall_476 (fun H locs hP hS _ _ => ?_)
    refine lv_goto (tgt := 542) F.1 F.2.1 dX9_actSmall_479 (by decide) ?_
    cases hs
    exact x_vret F hP hS dX9_actSmall_542
  have hs := it_f c45 hs
  by_cases c46 : (x1) = 44
  · have hs := it_t c46 hs
    refine lv_tableIn (off := 464) (tgt := 482) F.1 F.2.1 dX9_actSmall_18 (by rw [c46]; decide) (by rw [c46]; decide) (by rw [c46]; rfl) (by decide) ?_
    refine lv_aload_n F.1 F.2.1 dX9_actSmall_482 rfl (lv_at hl 1 rfl) ?_
    refine gM_X9_64 F hP dX9_actSmall_483 ?_
    refine lv_aload_n F.1 F.2.1 dX9_actSmall_486 rfl (lv_at hl 1 rfl) ?_
    obtain ⟨r4, h52, hs⟩ := bn_some hs
    refine x_callI (rest := [.ref (q 16)]) wv_X9_101 F hS (fun _ h => h) hS.2.1 (tX9_top l G A q hq h52) hP (x_recv (ci := 7) F hP rfl (by decide) (eM_0 G q _)) rfl hl.1 rfl ⟨Nat.le_of_ble_eq_true rfl, Nat.le_of_ble_eq_true rfl⟩ ⟨Nat.le_refl _, Nat.le_refl _⟩ (Nat.le_of_ble_eq_true rfl) dX9_actSmall_487 (fun H locs hP hS _ _ => ?_)
    refine lv_iconst (v := 1) F.1 F.2.1 dX9_actSmall_490 rfl ?_
    obtain ⟨g8, hs⟩ := gd_some hs
    obtain ⟨M51, eM51, hs⟩ := lt_some hs
    refine x_iast F hq hP hS (arM_16 G q) g8 eM51 dX9_actSmall_491 (fun H locs hP hS => ?_)
    refine lv_aload_n F.1 F.2.1 dX9_actSmall_492 rfl (lv_at hl 1 rfl) ?_
    refine gM_X9_76 F hP dX9_actSmall_493 ?_
    refine lv_aload_n F.1 F.2.1 dX9_actSmall_496 rfl (lv_at hl 1 rfl) ?_
    obtain ⟨r5, h53, hs⟩ := bn_some hs
    refine x_callI (rest := [.ref (q 20)]) wv_X9_101 F hS (fun _ h => h) hS.2.1 (tX9_top l G A q hq h53) hP (x_recv (ci := 7) F hP rfl (by decide) (eM_0 G q _)) rfl hl.1 rfl ⟨Nat.le_of_ble_eq_true rfl, Nat.le_of_ble_eq_true rfl⟩ ⟨Nat.le_refl _, Nat.le_refl _⟩ (Nat.le_of_ble_eq_true rfl) dX9_actSmall_497 (fun H locs hP hS _ _ => ?_)
    refine lv_aload_n F.1 F.2.1 dX9_actSmall_500 rfl (lv_at hl 1 rfl) ?_
    obtain ⟨r6, h54, hs⟩ := bn_some hs
    refine x_callI (rest := [.int r5, .ref (q 20)]) wv_X9_108 F hS (fun _ h => h) hS.2.1 (tX9_here l G A q hq h54) hP (x_recv (ci := 7) F hP rfl (by decide) (eM_0 G q _)) rfl hl.1 rfl ⟨Nat.le_of_ble_eq_true rfl, Nat.le_of_ble_eq_true rfl⟩ ⟨Nat.le_refl _, Nat.le_refl _⟩ (Nat.le_of_ble_eq_true rfl) dX9_actSmall_501 (fun H locs hP hS _ _ => ?_)
    refine lv_aload_n F.1 F.2.1 dX9_actSmall_504 rfl (lv_at hl 1 rfl) ?_
    refine lv_iconst (v := 1) F.1 F.2.1 dX9_actSmall_505 rfl ?_
    obtain ⟨r7, h55, hs⟩ := bn_some hs
    refine x_callI (rest := [.int r6, .int r5, .ref (q 20)]) wv_X9_193 F hS (fun _ h => h) hS.2.1 (tX9_signed l G A q hq h55) hP (x_recv (ci := 7) F hP rfl (by decide) (eM_0 G q _)) rfl hl.1 rfl ⟨Nat.le_of_ble_eq_true rfl, Nat.le_of_ble_eq_true rfl⟩ ⟨Nat.le_refl _, Nat.le_refl _⟩ (Nat.le_of_ble_eq_true rfl) dX9_actSmall_506 (fun H locs hP hS _ _ => ?_)
    refine lv_iadd F.1 F.2.1 dX9_actSmall_509 ?_
    obtain ⟨g9, hs⟩ := gd_some hs
    obtain ⟨M52, eM52, hs⟩ := lt_some hs
    refine x_iast F hq hP hS (arM_20 G q) g9 eM52 dX9_actSmall_510 (fun H locs hP hS => ?_)
    refine lv_aload_n F.1 F.2.1 dX9_actSmall_511 rfl (lv_at hl 1 rfl) ?_
    refine lv_iconst (v := 2) F.1 F.2.1 dX9_actSmall_512 rfl ?_
    obtain ⟨M53, h56, hs⟩ := bn_some hs
    refine x_callV (rest := []) wv_X9_167 F hS (fun _ h => h) hS.2.1 (tX9_on l G A q hq h56) hP (x_recv (ci := 7) F hP rfl (by decide) (eM_0 G q _)) rfl hl.1 rfl ⟨Nat.le_of_ble_eq_true rfl, Nat.le_of_ble_eq_true rfl⟩ ⟨Nat.le_refl _, Nat.le_refl _⟩ (Nat.le_of_ble_eq_true rfl) dX9_actSmall_513 (fun H locs hP hS _ _ => ?_)
    refine lv_goto (tgt := 542) F.1 F.2.1 dX9_actSmall_516 (by decide) ?_
    cases hs
    exact x_vret F hP hS dX9_actSmall_542
  have hs := it_f c46 hs
  by_cases c47 : (x1) = 45
  · have hs := it_t c47 hs
    refine lv_tableIn (off := 501) (tgt := 519) F.1 F.2.1 dX9_actSmall_18 (by rw [c47]; decide) (by rw [c47]; decide) (by rw [c47]; rfl) (by decide) ?_
    refine lv_aload_n F.1 F.2.1 dX9_actSmall_519 rfl (lv_at hl 1 rfl) ?_
    refine gM_X9_64 F hP dX9_actSmall_520 ?_
    refine lv_aload_n F.1 F.2.1 dX9_actSmall_523 rfl (lv_at hl 1 rfl) ?_
    obtain ⟨r8, h57, hs⟩ := bn_some hs
    refine x_callI (rest := [.ref (q 16)]) wv_X9_101 F hS (fun _ h => h) hS.2.1 (tX9_top l G A q hq h57) hP (x_recv (ci := 7) F hP rfl (by decide) (eM_0 G q _)) rfl hl.1 rfl ⟨Nat.le_of_ble_eq_true rfl, Nat.le_of_ble_eq_true rfl⟩ ⟨Nat.le_refl _, Nat.le_refl _⟩ (Nat.le_of_ble_eq_true rfl) dX9_actSmall_524 (fun H locs hP hS _ _ => ?_)
    refine lv_iconst (v := (-1)) F.1 F.2.1 dX9_actSmall_527 rfl ?_
    obtain ⟨g10, hs⟩ := gd_some hs
    obtain ⟨M54, eM54, hs⟩ := lt_some hs
    refine x_iast F hq hP hS (arM_16 G q) g10 eM54 dX9_actSmall_528 (fun H locs hP hS => ?_)
    refine lv_aload_n F.1 F.2.1 dX9_actSmall_529 rfl (lv_at hl 1 rfl) ?_
    refine lv_iconst (v := 1) F.1 F.2.1 dX9_actSmall_530 rfl ?_
    obtain ⟨M55, h58, hs⟩ := bn_some hs
    refine x_callV (rest := []) wv_X9_167 F hS (fun _ h => h) hS.2.1 (tX9_on l G A q hq h58) hP (x_recv (ci := 7) F hP rfl (by decide) (eM_0 G q _)) rfl hl.1 rfl ⟨Nat.le_of_ble_eq_true rfl, Nat.le_of_ble_eq_true rfl⟩ ⟨Nat.le_refl _, Nat.le_refl _⟩ (Nat.le_of_ble_eq_true rfl) dX9_actSmall_531 (fun H locs hP hS _ _ => ?_)
    refine lv_goto (tgt := 542) F.1 F.2.1 dX9_actSmall_534 (by decide) ?_
    cases hs
    exact x_vret F hP hS dX9_actSmall_542
  have hs := it_f c47 hs
  cases hs
set_option maxHeartbeats 4000000 in
set_option maxRecDepth 100000 in
theorem tX9_actSmall (l : Launch) (G : zG) (A : Nat → Prop) (q : Nat → Nat) (hq : zQD A 21 q) {M M' : St} {x1 : Int32} (hs : pX9_actSmall M x1 = some M') : zKV l yX9_actSmall cX9_actSmall 5 4 83 G A (zP G.1 21 q (eM G q) M) [.ref (q 0), .int x1] (zP G.1 21 q (eM G q) M') := by
  refine zKV_of (by decide) (Nat.le_of_ble_eq_true rfl) (fun p e s m args below meth c H ls F hH hP hl => ?_)
  have F : zFx p s m args meth c cX9_actSmall RX9 5 none G A := F
  have hS : va_S A s.heap H [] := hH ▸ va_S.rf
  have hl : lv_has ls 5 [(0, .ref (q 0)), (1, .int x1)] := hl
  rw [pX9_actSmall] at hs
  refine lv_aload_n F.1 F.2.1 dX9_actSmall_0 rfl (lv_at hl 0 rfl) ?_
  obtain ⟨r1, h1, hs⟩ := bn_some hs
  refine x_callI (rest := []) wv_X9_105 F hS (fun _ h => h) hS.2.1 (tX9_depth l G A q hq h1) hP (x_recv (ci := 7) F hP rfl (by decide) (eM_0 G q _)) rfl hl.1 rfl ⟨Nat.le_of_ble_eq_true rfl, Nat.le_of_ble_eq_true rfl⟩ ⟨Nat.le_refl _, Nat.le_refl _⟩ (Nat.le_of_ble_eq_true rfl) dX9_actSmall_1 (fun H locs hP hS _ _ => ?_)
  refine lv_if_le (tgt := 15) F.1 F.2.1 dX9_actSmall_4 (by decide) (fun c1 => ?_) (fun c1 => ?_)
  · have hs := it_t c1 hs
    refine lv_iconst (v := 0) F.1 F.2.1 dX9_actSmall_15 rfl ?_
    exact tX9_actSmall_b16 hq hs F hP hS (lv_sub hl [0, 1] rfl)
  have hs := it_f c1 hs
  refine lv_aload_n F.1 F.2.1 dX9_actSmall_7 rfl (lv_at hl 0 rfl) ?_
  refine lv_iconst (v := 0) F.1 F.2.1 dX9_actSmall_8 rfl ?_
  obtain ⟨r2, h2, hs⟩ := bn_some hs
  refine x_callI (rest := []) wv_X9_121 F hS (fun _ h => h) hS.2.1 (tX9_at l G A q hq h2) hP (x_recv (ci := 7) F hP rfl (by decide) (eM_0 G q _)) rfl hl.1 rfl ⟨Nat.le_of_ble_eq_true rfl, Nat.le_of_ble_eq_true rfl⟩ ⟨Nat.le_refl _, Nat.le_refl _⟩ (Nat.le_of_ble_eq_true rfl) dX9_actSmall_9 (fun H locs hP hS _ _ => ?_)
  refine lv_goto (tgt := 16) F.1 F.2.1 dX9_actSmall_12 (by decide) ?_
  exact tX9_actSmall_b16 hq hs F hP hS (lv_sub hl [0, 1] rfl)

def pX9_act_b98 (M : St) (x1 : Int32) : Option St :=
  if x1 = 24 then
    bn (pX9_callIt M) fun M1 =>
    some M1
  else
    if x1 = 27 then
      bn (pX9_callIt M) fun M11 =>
      some M11
    else
      if x1 = 25 then
        if x1 = 26 then
          bn (pX9_leave M 1) fun M3 =>
          some M3
        else
          bn (pX9_leave M 0) fun M2 =>
          some M2
      else
        if x1 = 26 then
          if x1 = 26 then
            bn (pX9_leave M 1) fun M10 =>
            some M10
          else
            bn (pX9_leave M 0) fun M9 =>
            some M9
        else
          if x1 = 28 then
            bn (pX9_make M (x1 - 28)) fun M4 =>
            some M4
          else
            if x1 = 29 then
              bn (pX9_make M (x1 - 28)) fun M8 =>
              some M8
            else
              if x1 = 31 then
                bn (pX9_store M) fun M7 =>
                some M7
              else
                if x1 = 35 then
                  bn (pX9_copy M) fun M6 =>
                  some M6
                else
                  bn (pX9_actSmall M x1) fun M5 =>
                  some M5
def pX9_act_b78 (M : St) (x1 : Int32) : Option St :=
  if x1 < 36 then
    pX9_act_b98 M x1
  else
    if 38 < x1 then
      pX9_act_b98 M x1
    else
      bn (pX9_transact M x1) fun M1 =>
      some M1
def pX9_act_b60 (M : St) (x1 : Int32) : Option St :=
  if x1 < 3 then
    pX9_act_b78 M x1
  else
    if 5 < x1 then
      pX9_act_b78 M x1
    else
      bn (pX9_local M x1) fun M1 =>
      some M1
def pX9_act_b40 (M : St) (x1 : Int32) : Option St :=
  if x1 < 21 then
    pX9_act_b60 M x1
  else
    if 23 < x1 then
      pX9_act_b60 M x1
    else
      bn (pX9_jump M x1) fun M1 =>
      some M1
def pX9_act (M : St) (x1 : Int32) : Option St :=
  if x1 < 6 then
    pX9_act_b40 M x1
  else
    if 17 < x1 then
      pX9_act_b40 M x1
    else
      if x1 = 11 then
        pX9_act_b40 M x1
      else
        bn (pX9_at M 1) fun r1 =>
        bn (pX9_at M 0) fun r2 =>
        bn (pX9_reckon x1 r1 r2) fun r3 =>
        bn (pX9_replace M 2 r3) fun M1 =>
        some M1
set_option maxHeartbeats 4000000 in
set_option maxRecDepth 100000 in
theorem tX9_act_b98 {G : zG} {A : Nat → Prop} {q : Nat → Nat} (hq : zQD A 21 q) {M M' : St} {x1 : Int32} (hs : pX9_act_b98 M x1 = some M') {p : Program} {l : Launch} {e : Env} {s : State} {m : MethodId} {args : Array Value} {below : List Frame} {meth : Method} {c : Code} {H : Heap} {locs : List Loc} {ls : Array Slot} (F : zFx p s m args meth c cX9_act RX9 2 none G A) (hP : (zP G.1 21 q (eM G q) M) H) (hS : va_S A s.heap H locs) (hl : lv_has ls 2 [(0, .ref (q 0)), (1, .int x1)]) : W p l e { frames := 5, cells := 0, slots := 0, locals := 107 } s m args below meth c H locs 0 0 (MQ below (va_Qv (fun (_ : Unit) => True) (fun _ U => (zP G.1 21 q (eM G q) M') U.heap) A) args s 0 0 A) (F0 m 98 ls []) := by
  rw [pX9_act_b98] at hs
  refine lv_iload_n F.1 F.2.1 dX9_act_98 rfl (lv_at hl 1 rfl) ?_
  refine lv_bipush (v := 24) F.1 F.2.1 dX9_act_99 rfl ?_
  refine lv_icmp_eq (tgt := 110) F.1 F.2.1 dX9_act_101 (by decide) (fun c1 => ?_) (fun c1 => ?_)
  · have hs := it_t c1 hs
    refine lv_aload_n F.1 F.2.1 dX9_act_110 rfl (lv_at hl 0 rfl) ?_
    obtain ⟨M1, h1, hs⟩ := bn_some hs
    refine x_callV (rest := []) wv_X9_216 F hS (fun _ h => h) hS.2.1 (tX9_callIt l G A q hq h1) hP (x_recv (ci := 7) F hP rfl (by decide) (eM_0 G q _)) rfl hl.1 rfl ⟨Nat.le_of_ble_eq_true rfl, Nat.le_of_ble_eq_true rfl⟩ ⟨Nat.le_refl _, Nat.le_refl _⟩ (Nat.le_of_ble_eq_true rfl) dX9_act_111 (fun H locs hP hS _ _ => ?_)
    refine lv_goto (tgt := 201) F.1 F.2.1 dX9_act_114 (by decide) ?_
    cases hs
    exact x_vret F hP hS dX9_act_201
  have hs := it_f c1 hs
  refine lv_iload_n F.1 F.2.1 dX9_act_104 rfl (lv_at hl 1 rfl) ?_
  refine lv_bipush (v := 27) F.1 F.2.1 dX9_act_105 rfl ?_
  refine lv_icmp_ne (tgt := 117) F.1 F.2.1 dX9_act_107 (by decide) (fun c2 => ?_) (fun c2 => ?_)
  · have hs := it_f c2 hs
    refine lv_iload_n F.1 F.2.1 dX9_act_117 rfl (lv_at hl 1 rfl) ?_
    refine lv_bipush (v := 25) F.1 F.2.1 dX9_act_118 rfl ?_
    refine lv_icmp_eq (tgt := 129) F.1 F.2.1 dX9_act_120 (by decide) (fun c3 => ?_) (fun c3 => ?_)
    · have hs := it_t c3 hs
      refine lv_aload_n F.1 F.2.1 dX9_act_129 rfl (lv_at hl 0 rfl) ?_
      refine lv_iload_n F.1 F.2.1 dX9_act_130 rfl (lv_at hl 1 rfl) ?_
      refine lv_bipush (v := 26) F.1 F.2.1 dX9_act_131 rfl ?_
      refine lv_icmp_ne (tgt := 140) F.1 F.2.1 dX9_act_133 (by decide) (fun c4 => ?_) (fun c4 => ?_)
      · have hs := it_f c4 hs
        refine lv_iconst (v := 0) F.1 F.2.1 dX9_act_140 rfl ?_
        obtain ⟨M2, h2, hs⟩ := bn_some hs
        refine x_callV (rest := []) wv_X9_219 F hS (fun _ h => h) hS.2.1 (tX9_leave l G A q hq h2) hP (x_recv (ci := 7) F hP rfl (by decide) (eM_0 G q _)) rfl hl.1 rfl ⟨Nat.le_of_ble_eq_true rfl, Nat.le_of_ble_eq_true rfl⟩ ⟨Nat.le_refl _, Nat.le_refl _⟩ (Nat.le_of_ble_eq_true rfl) dX9_act_141 (fun H locs hP hS _ _ => ?_)
        refine lv_goto (tgt := 201) F.1 F.2.1 dX9_act_144 (by decide) ?_
        cases hs
        exact x_vret F hP hS dX9_act_201
      have hs := it_t c4 hs
      refine lv_iconst (v := 1) F.1 F.2.1 dX9_act_136 rfl ?_
      refine lv_goto (tgt := 141) F.1 F.2.1 dX9_act_137 (by decide) ?_
      obtain ⟨M3, h3, hs⟩ := bn_some hs
      refine x_callV (rest := []) wv_X9_219 F hS (fun _ h => h) hS.2.1 (tX9_leave l G A q hq h3) hP (x_recv (ci := 7) F hP rfl (by decide) (eM_0 G q _)) rfl hl.1 rfl ⟨Nat.le_of_ble_eq_true rfl, Nat.le_of_ble_eq_true rfl⟩ ⟨Nat.le_refl _, Nat.le_refl _⟩ (Nat.le_of_ble_eq_true rfl) dX9_act_141 (fun H locs hP hS _ _ => ?_)
      refine lv_goto (tgt := 201) F.1 F.2.1 dX9_act_144 (by decide) ?_
      cases hs
      exact x_vret F hP hS dX9_act_201
    have hs := it_f c3 hs
    refine lv_iload_n F.1 F.2.1 dX9_act_123 rfl (lv_at hl 1 rfl) ?_
    refine lv_bipush (v := 26) F.1 F.2.1 dX9_act_124 rfl ?_
    refine lv_icmp_ne (tgt := 147) F.1 F.2.1 dX9_act_126 (by decide) (fun c5 => ?_) (fun c5 => ?_)
    · have hs := it_f c5 hs
      refine lv_iload_n F.1 F.2.1 dX9_act_147 rfl (lv_at hl 1 rfl) ?_
      refine lv_bipush (v := 28) F.1 F.2.1 dX9_act_148 rfl ?_
      refine lv_icmp_eq (tgt := 159) F.1 F.2.1 dX9_act_150 (by decide) (fun c6 => ?_) (fun c6 => ?_)
      · have hs := it_t c6 hs
        refine lv_aload_n F.1 F.2.1 dX9_act_159 rfl (lv_at hl 0 rfl) ?_
        refine lv_iload_n F.1 F.2.1 dX9_act_160 rfl (lv_at hl 1 rfl) ?_
        refine lv_bipush (v := 28) F.1 F.2.1 dX9_act_161 rfl ?_
        refine lv_isub F.1 F.2.1 dX9_act_163 ?_
        obtain ⟨M4, h4, hs⟩ := bn_some hs
        refine x_callV (rest := []) wv_X9_223 F hS (fun _ h => h) hS.2.1 (tX9_make l G A q hq h4) hP (x_recv (ci := 7) F hP rfl (by decide) (eM_0 G q _)) rfl hl.1 rfl ⟨Nat.le_of_ble_eq_true rfl, Nat.le_of_ble_eq_true rfl⟩ ⟨Nat.le_refl _, Nat.le_refl _⟩ (Nat.le_of_ble_eq_true rfl) dX9_act_164 (fun H locs hP hS _ _ => ?_)
        refine lv_goto (tgt := 201) F.1 F.2.1 dX9_act_167 (by decide) ?_
        cases hs
        exact x_vret F hP hS dX9_act_201
      have hs := it_f c6 hs
      refine lv_iload_n F.1 F.2.1 dX9_act_153 rfl (lv_at hl 1 rfl) ?_
      refine lv_bipush (v := 29) F.1 F.2.1 dX9_act_154 rfl ?_
      refine lv_icmp_ne (tgt := 170) F.1 F.2.1 dX9_act_156 (by decide) (fun c7 => ?_) (fun c7 => ?_)
      · have hs := it_f c7 hs
        refine lv_iload_n F.1 F.2.1 dX9_act_170 rfl (lv_at hl 1 rfl) ?_
        refine lv_bipush (v := 31) F.1 F.2.1 dX9_act_171 rfl ?_
        refine lv_icmp_ne (tgt := 183) F.1 F.2.1 dX9_act_173 (by decide) (fun c8 => ?_) (fun c8 => ?_)
        · have hs := it_f c8 hs
          refine lv_iload_n F.1 F.2.1 dX9_act_183 rfl (lv_at hl 1 rfl) ?_
          refine lv_bipush (v := 35) F.1 F.2.1 dX9_act_184 rfl ?_
          refine lv_icmp_ne (tgt := 196) F.1 F.2.1 dX9_act_186 (by decide) (fun c9 => ?_) (fun c9 => ?_)
          · have hs := it_f c9 hs
            refine lv_aload_n F.1 F.2.1 dX9_act_196 rfl (lv_at hl 0 rfl) ?_
            refine lv_iload_n F.1 F.2.1 dX9_act_197 rfl (lv_at hl 1 rfl) ?_
            obtain ⟨M5, h5, hs⟩ := bn_some hs
            refine x_callV (rest := []) wv_X9_232 F hS (fun _ h => h) hS.2.1 (tX9_actSmall l G A q hq h5) hP (x_recv (ci := 7) F hP rfl (by decide) (eM_0 G q _)) rfl hl.1 rfl ⟨Nat.le_of_ble_eq_true rfl, Nat.le_of_ble_eq_true rfl⟩ ⟨Nat.le_refl _, Nat.le_refl _⟩ (Nat.le_of_ble_eq_true rfl) dX9_act_198 (fun H locs hP hS _ _ => ?_)
            cases hs
            exact x_vret F hP hS dX9_act_201
          have hs := it_t c9 hs
          refine lv_aload_n F.1 F.2.1 dX9_act_189 rfl (lv_at hl 0 rfl) ?_
          obtain ⟨M6, h6, hs⟩ := bn_some hs
          refine x_callV (rest := []) wv_X9_229 F hS (fun _ h => h) hS.2.1 (tX9_copy l G A q hq h6) hP (x_recv (ci := 7) F hP rfl (by decide) (eM_0 G q _)) rfl hl.1 rfl ⟨Nat.le_of_ble_eq_true rfl, Nat.le_of_ble_eq_true rfl⟩ ⟨Nat.le_refl _, Nat.le_refl _⟩ (Nat.le_of_ble_eq_true rfl) dX9_act_190 (fun H locs hP hS _ _ => ?_)
          refine lv_goto (tgt := 201) F.1 F.2.1 dX9_act_193 (by decide) ?_
          cases hs
          exact x_vret F hP hS dX9_act_201
        have hs := it_t c8 hs
        refine lv_aload_n F.1 F.2.1 dX9_act_176 rfl (lv_at hl 0 rfl) ?_
        obtain ⟨M7, h7, hs⟩ := bn_some hs
        refine x_callV (rest := []) wv_X9_226 F hS (fun _ h => h) hS.2.1 (tX9_store l G A q hq h7) hP (x_recv (ci := 7) F hP rfl (by decide) (eM_0 G q _)) rfl hl.1 rfl ⟨Nat.le_of_ble_eq_true rfl, Nat.le_of_ble_eq_true rfl⟩ ⟨Nat.le_refl _, Nat.le_refl _⟩ (Nat.le_of_ble_eq_true rfl) dX9_act_177 (fun H locs hP hS _ _ => ?_)
        refine lv_goto (tgt := 201) F.1 F.2.1 dX9_act_180 (by decide) ?_
        cases hs
        exact x_vret F hP hS dX9_act_201
      have hs := it_t c7 hs
      refine lv_aload_n F.1 F.2.1 dX9_act_159 rfl (lv_at hl 0 rfl) ?_
      refine lv_iload_n F.1 F.2.1 dX9_act_160 rfl (lv_at hl 1 rfl) ?_
      refine lv_bipush (v := 28) F.1 F.2.1 dX9_act_161 rfl ?_
      refine lv_isub F.1 F.2.1 dX9_act_163 ?_
      obtain ⟨M8, h8, hs⟩ := bn_some hs
      refine x_callV (rest := []) wv_X9_223 F hS (fun _ h => h) hS.2.1 (tX9_make l G A q hq h8) hP (x_recv (ci := 7) F hP rfl (by decide) (eM_0 G q _)) rfl hl.1 rfl ⟨Nat.le_of_ble_eq_true rfl, Nat.le_of_ble_eq_true rfl⟩ ⟨Nat.le_refl _, Nat.le_refl _⟩ (Nat.le_of_ble_eq_true rfl) dX9_act_164 (fun H locs hP hS _ _ => ?_)
      refine lv_goto (tgt := 201) F.1 F.2.1 dX9_act_167 (by decide) ?_
      cases hs
      exact x_vret F hP hS dX9_act_201
    have hs := it_t c5 hs
    refine lv_aload_n F.1 F.2.1 dX9_act_129 rfl (lv_at hl 0 rfl) ?_
    refine lv_iload_n F.1 F.2.1 dX9_act_130 rfl (lv_at hl 1 rfl) ?_
    refine lv_bipush (v := 26) F.1 F.2.1 dX9_act_131 rfl ?_
    refine lv_icmp_ne (tgt := 140) F.1 F.2.1 dX9_act_133 (by decide) (fun c10 => ?_) (fun c10 => ?_)
    · have hs := it_f c10 hs
      refine lv_iconst (v := 0) F.1 F.2.1 dX9_act_140 rfl ?_
      obtain ⟨M9, h9, hs⟩ := bn_some hs
      refine x_callV (rest := []) wv_X9_219 F hS (fun _ h => h) hS.2.1 (tX9_leave l G A q hq h9) hP (x_recv (ci := 7) F hP rfl (by decide) (eM_0 G q _)) rfl hl.1 rfl ⟨Nat.le_of_ble_eq_true rfl, Nat.le_of_ble_eq_true rfl⟩ ⟨Nat.le_refl _, Nat.le_refl _⟩ (Nat.le_of_ble_eq_true rfl) dX9_act_141 (fun H locs hP hS _ _ => ?_)
      refine lv_goto (tgt := 201) F.1 F.2.1 dX9_act_144 (by decide) ?_
      cases hs
      exact x_vret F hP hS dX9_act_201
    have hs := it_t c10 hs
    refine lv_iconst (v := 1) F.1 F.2.1 dX9_act_136 rfl ?_
    refine lv_goto (tgt := 141) F.1 F.2.1 dX9_act_137 (by decide) ?_
    obtain ⟨M10, h10, hs⟩ := bn_some hs
    refine x_callV (rest := []) wv_X9_219 F hS (fun _ h => h) hS.2.1 (tX9_leave l G A q hq h10) hP (x_recv (ci := 7) F hP rfl (by decide) (eM_0 G q _)) rfl hl.1 rfl ⟨Nat.le_of_ble_eq_true rfl, Nat.le_of_ble_eq_true rfl⟩ ⟨Nat.le_refl _, Nat.le_refl _⟩ (Nat.le_of_ble_eq_true rfl) dX9_act_141 (fun H locs hP hS _ _ => ?_)
    refine lv_goto (tgt := 201) F.1 F.2.1 dX9_act_144 (by decide) ?_
    cases hs
    exact x_vret F hP hS dX9_act_201
  have hs := it_t c2 hs
  refine lv_aload_n F.1 F.2.1 dX9_act_110 rfl (lv_at hl 0 rfl) ?_
  obtain ⟨M11, h11, hs⟩ := bn_some hs
  refine x_callV (rest := []) wv_X9_216 F hS (fun _ h => h) hS.2.1 (tX9_callIt l G A q hq h11) hP (x_recv (ci := 7) F hP rfl (by decide) (eM_0 G q _)) rfl hl.1 rfl ⟨Nat.le_of_ble_eq_true rfl, Nat.le_of_ble_eq_true rfl⟩ ⟨Nat.le_refl _, Nat.le_refl _⟩ (Nat.le_of_ble_eq_true rfl) dX9_act_111 (fun H locs hP hS _ _ => ?_)
  refine lv_goto (tgt := 201) F.1 F.2.1 dX9_act_114 (by decide) ?_
  cases hs
  exact x_vret F hP hS dX9_act_201
set_option maxHeartbeats 4000000 in
set_option maxRecDepth 100000 in
theorem tX9_act_b78 {G : zG} {A : Nat → Prop} {q : Nat → Nat} (hq : zQD A 21 q) {M M' : St} {x1 : Int32} (hs : pX9_act_b78 M x1 = some M') {p : Program} {l : Launch} {e : Env} {s : State} {m : MethodId} {args : Array Value} {below : List Frame} {meth : Method} {c : Code} {H : Heap} {locs : List Loc} {ls : Array Slot} (F : zFx p s m args meth c cX9_act RX9 2 none G A) (hP : (zP G.1 21 q (eM G q) M) H) (hS : va_S A s.heap H locs) (hl : lv_has ls 2 [(0, .ref (q 0)), (1, .int x1)]) : W p l e { frames := 5, cells := 0, slots := 0, locals := 107 } s m args below meth c H locs 0 0 (MQ below (va_Qv (fun (_ : Unit) => True) (fun _ U => (zP G.1 21 q (eM G q) M') U.heap) A) args s 0 0 A) (F0 m 78 ls []) := by
  rw [pX9_act_b78] at hs
  refine lv_iload_n F.1 F.2.1 dX9_act_78 rfl (lv_at hl 1 rfl) ?_
  refine lv_bipush (v := 36) F.1 F.2.1 dX9_act_79 rfl ?_
  refine lv_icmp_lt (tgt := 98) F.1 F.2.1 dX9_act_81 (by decide) (fun c1 => ?_) (fun c1 => ?_)
  · have hs := it_t c1 hs
    exact tX9_act_b98 hq hs F hP hS (lv_sub hl [0, 1] rfl)
  have hs := it_f c1 hs
  refine lv_iload_n F.1 F.2.1 dX9_act_84 rfl (lv_at hl 1 rfl) ?_
  refine lv_bipush (v := 38) F.1 F.2.1 dX9_act_85 rfl ?_
  refine lv_icmp_gt (tgt := 98) F.1 F.2.1 dX9_act_87 (by decide) (fun c2 => ?_) (fun c2 => ?_)
  · have hs := it_t c2 hs
    exact tX9_act_b98 hq hs F hP hS (lv_sub hl [0, 1] rfl)
  have hs := it_f c2 hs
  refine lv_aload_n F.1 F.2.1 dX9_act_90 rfl (lv_at hl 0 rfl) ?_
  refine lv_iload_n F.1 F.2.1 dX9_act_91 rfl (lv_at hl 1 rfl) ?_
  obtain ⟨M1, h1, hs⟩ := bn_some hs
  refine x_callV (rest := []) wv_X9_213 F hS (fun _ h => h) hS.2.1 (tX9_transact l G A q hq h1) hP (x_recv (ci := 7) F hP rfl (by decide) (eM_0 G q _)) rfl hl.1 rfl ⟨Nat.le_of_ble_eq_true rfl, Nat.le_of_ble_eq_true rfl⟩ ⟨Nat.le_refl _, Nat.le_refl _⟩ (Nat.le_of_ble_eq_true rfl) dX9_act_92 (fun H locs hP hS _ _ => ?_)
  refine lv_goto (tgt := 201) F.1 F.2.1 dX9_act_95 (by decide) ?_
  cases hs
  exact x_vret F hP hS dX9_act_201
set_option maxHeartbeats 4000000 in
set_option maxRecDepth 100000 in
theorem tX9_act_b60 {G : zG} {A : Nat → Prop} {q : Nat → Nat} (hq : zQD A 21 q) {M M' : St} {x1 : Int32} (hs : pX9_act_b60 M x1 = some M') {p : Program} {l : Launch} {e : Env} {s : State} {m : MethodId} {args : Array Value} {below : List Frame} {meth : Method} {c : Code} {H : Heap} {locs : List Loc} {ls : Array Slot} (F : zFx p s m args meth c cX9_act RX9 2 none G A) (hP : (zP G.1 21 q (eM G q) M) H) (hS : va_S A s.heap H locs) (hl : lv_has ls 2 [(0, .ref (q 0)), (1, .int x1)]) : W p l e { frames := 5, cells := 0, slots := 0, locals := 107 } s m args below meth c H locs 0 0 (MQ below (va_Qv (fun (_ : Unit) => True) (fun _ U => (zP G.1 21 q (eM G q) M') U.heap) A) args s 0 0 A) (F0 m 60 ls []) := by
  rw [pX9_act_b60] at hs
  refine lv_iload_n F.1 F.2.1 dX9_act_60 rfl (lv_at hl 1 rfl) ?_
  refine lv_iconst (v := 3) F.1 F.2.1 dX9_act_61 rfl ?_
  refine lv_icmp_lt (tgt := 78) F.1 F.2.1 dX9_act_62 (by decide) (fun c1 => ?_) (fun c1 => ?_)
  · have hs := it_t c1 hs
    exact tX9_act_b78 hq hs F hP hS (lv_sub hl [0, 1] rfl)
  have hs := it_f c1 hs
  refine lv_iload_n F.1 F.2.1 dX9_act_65 rfl (lv_at hl 1 rfl) ?_
  refine lv_iconst (v := 5) F.1 F.2.1 dX9_act_66 rfl ?_
  refine lv_icmp_gt (tgt := 78) F.1 F.2.1 dX9_act_67 (by decide) (fun c2 => ?_) (fun c2 => ?_)
  · have hs := it_t c2 hs
    exact tX9_act_b78 hq hs F hP hS (lv_sub hl [0, 1] rfl)
  have hs := it_f c2 hs
  refine lv_aload_n F.1 F.2.1 dX9_act_70 rfl (lv_at hl 0 rfl) ?_
  refine lv_iload_n F.1 F.2.1 dX9_act_71 rfl (lv_at hl 1 rfl) ?_
  obtain ⟨M1, h1, hs⟩ := bn_some hs
  refine x_callV (rest := []) wv_X9_210 F hS (fun _ h => h) hS.2.1 (tX9_local l G A q hq h1) hP (x_recv (ci := 7) F hP rfl (by decide) (eM_0 G q _)) rfl hl.1 rfl ⟨Nat.le_of_ble_eq_true rfl, Nat.le_of_ble_eq_true rfl⟩ ⟨Nat.le_refl _, Nat.le_refl _⟩ (Nat.le_of_ble_eq_true rfl) dX9_act_72 (fun H locs hP hS _ _ => ?_)
  refine lv_goto (tgt := 201) F.1 F.2.1 dX9_act_75 (by decide) ?_
  cases hs
  exact x_vret F hP hS dX9_act_201
set_option maxHeartbeats 4000000 in
set_option maxRecDepth 100000 in
theorem tX9_act_b40 {G : zG} {A : Nat → Prop} {q : Nat → Nat} (hq : zQD A 21 q) {M M' : St} {x1 : Int32} (hs : pX9_act_b40 M x1 = some M') {p : Program} {l : Launch} {e : Env} {s : State} {m : MethodId} {args : Array Value} {below : List Frame} {meth : Method} {c : Code} {H : Heap} {locs : List Loc} {ls : Array Slot} (F : zFx p s m args meth c cX9_act RX9 2 none G A) (hP : (zP G.1 21 q (eM G q) M) H) (hS : va_S A s.heap H locs) (hl : lv_has ls 2 [(0, .ref (q 0)), (1, .int x1)]) : W p l e { frames := 5, cells := 0, slots := 0, locals := 107 } s m args below meth c H locs 0 0 (MQ below (va_Qv (fun (_ : Unit) => True) (fun _ U => (zP G.1 21 q (eM G q) M') U.heap) A) args s 0 0 A) (F0 m 40 ls []) := by
  rw [pX9_act_b40] at hs
  refine lv_iload_n F.1 F.2.1 dX9_act_40 rfl (lv_at hl 1 rfl) ?_
  refine lv_bipush (v := 21) F.1 F.2.1 dX9_act_41 rfl ?_
  refine lv_icmp_lt (tgt := 60) F.1 F.2.1 dX9_act_43 (by decide) (fun c1 => ?_) (fun c1 => ?_)
  · have hs := it_t c1 hs
    exact tX9_act_b60 hq hs F hP hS (lv_sub hl [0, 1] rfl)
  have hs := it_f c1 hs
  refine lv_iload_n F.1 F.2.1 dX9_act_46 rfl (lv_at hl 1 rfl) ?_
  refine lv_bipush (v := 23) F.1 F.2.1 dX9_act_47 rfl ?_
  refine lv_icmp_gt (tgt := 60) F.1 F.2.1 dX9_act_49 (by decide) (fun c2 => ?_) (fun c2 => ?_)
  · have hs := it_t c2 hs
    exact tX9_act_b60 hq hs F hP hS (lv_sub hl [0, 1] rfl)
  have hs := it_f c2 hs
  refine lv_aload_n F.1 F.2.1 dX9_act_52 rfl (lv_at hl 0 rfl) ?_
  refine lv_iload_n F.1 F.2.1 dX9_act_53 rfl (lv_at hl 1 rfl) ?_
  obtain ⟨M1, h1, hs⟩ := bn_some hs
  refine x_callV (rest := []) wv_X9_207 F hS (fun _ h => h) hS.2.1 (tX9_jump l G A q hq h1) hP (x_recv (ci := 7) F hP rfl (by decide) (eM_0 G q _)) rfl hl.1 rfl ⟨Nat.le_of_ble_eq_true rfl, Nat.le_of_ble_eq_true rfl⟩ ⟨Nat.le_refl _, Nat.le_refl _⟩ (Nat.le_of_ble_eq_true rfl) dX9_act_54 (fun H locs hP hS _ _ => ?_)
  refine lv_goto (tgt := 201) F.1 F.2.1 dX9_act_57 (by decide) ?_
  cases hs
  exact x_vret F hP hS dX9_act_201
set_option maxHeartbeats 4000000 in
set_option maxRecDepth 100000 in
theorem tX9_act (l : Launch) (G : zG) (A : Nat → Prop) (q : Nat → Nat) (hq : zQD A 21 q) {M M' : St} {x1 : Int32} (hs : pX9_act M x1 = some M') : zKV l yX9_act cX9_act 2 5 107 G A (zP G.1 21 q (eM G q) M) [.ref (q 0), .int x1] (zP G.1 21 q (eM G q) M') := by
  refine zKV_of (by decide) (Nat.le_of_ble_eq_true rfl) (fun p e s m args below meth c H ls F hH hP hl => ?_)
  have F : zFx p s m args meth c cX9_act RX9 2 none G A := F
  have hS : va_S A s.heap H [] := hH ▸ va_S.rf
  have hl : lv_has ls 2 [(0, .ref (q 0)), (1, .int x1)] := hl
  rw [pX9_act] at hs
  refine lv_iload_n F.1 F.2.1 dX9_act_0 rfl (lv_at hl 1 rfl) ?_
  refine lv_bipush (v := 6) F.1 F.2.1 dX9_act_1 rfl ?_
  refine lv_icmp_lt (tgt := 40) F.1 F.2.1 dX9_act_3 (by decide) (fun c1 => ?_) (fun c1 => ?_)
  · have hs := it_t c1 hs
    exact tX9_act_b40 hq hs F hP hS (lv_sub hl [0, 1] rfl)
  have hs := it_f c1 hs
  refine lv_iload_n F.1 F.2.1 dX9_act_6 rfl (lv_at hl 1 rfl) ?_
  refine lv_bipush (v := 17) F.1 F.2.1 dX9_act_7 rfl ?_
  refine lv_icmp_gt (tgt := 40) F.1 F.2.1 dX9_act_9 (by decide) (fun c2 => ?_) (fun c2 => ?_)
  · have hs := it_t c2 hs
    exact tX9_act_b40 hq hs F hP hS (lv_sub hl [0, 1] rfl)
  have hs := it_f c2 hs
  refine lv_iload_n F.1 F.2.1 dX9_act_12 rfl (lv_at hl 1 rfl) ?_
  refine lv_bipush (v := 11) F.1 F.2.1 dX9_act_13 rfl ?_
  refine lv_icmp_eq (tgt := 40) F.1 F.2.1 dX9_act_15 (by decide) (fun c3 => ?_) (fun c3 => ?_)
  · have hs := it_t c3 hs
    exact tX9_act_b40 hq hs F hP hS (lv_sub hl [0, 1] rfl)
  have hs := it_f c3 hs
  refine lv_aload_n F.1 F.2.1 dX9_act_18 rfl (lv_at hl 0 rfl) ?_
  refine lv_iconst (v := 2) F.1 F.2.1 dX9_act_19 rfl ?_
  refine lv_iload_n F.1 F.2.1 dX9_act_20 rfl (lv_at hl 1 rfl) ?_
  refine lv_aload_n F.1 F.2.1 dX9_act_21 rfl (lv_at hl 0 rfl) ?_
  refine lv_iconst (v := 1) F.1 F.2.1 dX9_act_22 rfl ?_
  obtain ⟨r1, h1, hs⟩ := bn_some hs
  refine x_callI (rest := [.int x1, .int 2, .ref (q 0)]) wv_X9_121 F hS (fun _ h => h) hS.2.1 (tX9_at l G A q hq h1) hP (x_recv (ci := 7) F hP rfl (by decide) (eM_0 G q _)) rfl hl.1 rfl ⟨Nat.le_of_ble_eq_true rfl, Nat.le_of_ble_eq_true rfl⟩ ⟨Nat.le_refl _, Nat.le_refl _⟩ (Nat.le_of_ble_eq_true rfl) dX9_act_23 (fun H locs hP hS _ _ => ?_)
  refine lv_aload_n F.1 F.2.1 dX9_act_26 rfl (lv_at hl 0 rfl) ?_
  refine lv_iconst (v := 0) F.1 F.2.1 dX9_act_27 rfl ?_
  obtain ⟨r2, h2, hs⟩ := bn_some hs
  refine x_callI (rest := [.int r1, .int x1, .int 2, .ref (q 0)]) wv_X9_121 F hS (fun _ h => h) hS.2.1 (tX9_at l G A q hq h2) hP (x_recv (ci := 7) F hP rfl (by decide) (eM_0 G q _)) rfl hl.1 rfl ⟨Nat.le_of_ble_eq_true rfl, Nat.le_of_ble_eq_true rfl⟩ ⟨Nat.le_refl _, Nat.le_refl _⟩ (Nat.le_of_ble_eq_true rfl) dX9_act_28 (fun H locs hP hS _ _ => ?_)
  obtain ⟨r3, h3, hs⟩ := bn_some hs
  refine x_callSI (rest := [.int 2, .ref (q 0)]) wv_X9_199 F hS (fun _ h => h) hS.2.1 (tX9_reckon l G A (zP G.1 21 q (eM G q) M) h3) hP rfl hl.1 rfl ⟨Nat.le_of_ble_eq_true rfl, Nat.le_of_ble_eq_true rfl⟩ ⟨Nat.le_refl _, Nat.le_refl _⟩ (Nat.le_of_ble_eq_true rfl) dX9_act_31 (fun H locs hP hS _ _ => ?_)
  obtain ⟨M1, h4, hs⟩ := bn_some hs
  refine x_callV (rest := []) wv_X9_203 F hS (fun _ h => h) hS.2.1 (tX9_replace l G A q hq h4) hP (x_recv (ci := 7) F hP rfl (by decide) (eM_0 G q _)) rfl hl.1 rfl ⟨Nat.le_of_ble_eq_true rfl, Nat.le_of_ble_eq_true rfl⟩ ⟨Nat.le_refl _, Nat.le_refl _⟩ (Nat.le_of_ble_eq_true rfl) dX9_act_34 (fun H locs hP hS _ _ => ?_)
  refine lv_goto (tgt := 201) F.1 F.2.1 dX9_act_37 (by decide) ?_
  cases hs
  exact x_vret F hP hS dX9_act_201

def pX9_step (M : St) : Option St :=
  if M 0 32 = M 0 31 then
    lt (up2 M 0 35 10) fun M4 =>
    some M4
  else
    lt (up2 M 0 32 ((M 0 32) + 1)) fun M1 =>
    bn (pX9_fault M1) fun r1 =>
    if r1 ≤ 0 then
      bn (pX9_byteAt M1 0) fun r2 =>
      bn (pX9_act M1 r2) fun M2 =>
      some M2
    else
      bn (pX9_throwIt M1 r1) fun M3 =>
      some M3
set_option maxHeartbeats 4000000 in
set_option maxRecDepth 100000 in
theorem tX9_step (l : Launch) (G : zG) (A : Nat → Prop) (q : Nat → Nat) (hq : zQD A 21 q) {M M' : St} (hs : pX9_step M = some M') : zKV l yX9_step cX9_step 2 6 128 G A (zP G.1 21 q (eM G q) M) [.ref (q 0)] (zP G.1 21 q (eM G q) M') := by
  refine zKV_of (by decide) (Nat.le_of_ble_eq_true rfl) (fun p e s m args below meth c H ls F hH hP hl => ?_)
  have F : zFx p s m args meth c cX9_step RX9 2 none G A := F
  have hS : va_S A s.heap H [] := hH ▸ va_S.rf
  have hl : lv_has ls 2 [(0, .ref (q 0))] := hl
  rw [pX9_step] at hs
  refine lv_aload_n F.1 F.2.1 dX9_step_0 rfl (lv_at hl 0 rfl) ?_
  refine gM_X9_176 F hP dX9_step_1 ?_
  refine lv_aload_n F.1 F.2.1 dX9_step_4 rfl (lv_at hl 0 rfl) ?_
  refine gM_X9_173 F hP dX9_step_5 ?_
  refine lv_icmp_ne (tgt := 18) F.1 F.2.1 dX9_step_8 (by decide) (fun c1 => ?_) (fun c1 => ?_)
  · have hs := it_f c1 hs
    refine lv_aload_n F.1 F.2.1 dX9_step_18 rfl (lv_at hl 0 rfl) ?_
    refine lv_dup F.1 F.2.1 dX9_step_19 rfl ?_
    refine gM_X9_176 F hP dX9_step_20 ?_
    refine lv_iconst (v := 1) F.1 F.2.1 dX9_step_23 rfl ?_
    refine lv_iadd F.1 F.2.1 dX9_step_24 ?_
    obtain ⟨M1, eM1, hs⟩ := lt_some hs
    refine hM_X9_176 F hq hP hS eM1 dX9_step_25 (fun H locs hP hS => ?_)
    refine lv_aload_n F.1 F.2.1 dX9_step_28 rfl (lv_at hl 0 rfl) ?_
    obtain ⟨r1, h1, hs⟩ := bn_some hs
    refine x_callI (rest := []) wv_X9_235 F hS (fun _ h => h) hS.2.1 (tX9_fault l G A q hq h1) hP (x_recv (ci := 7) F hP rfl (by decide) (eM_0 G q _)) rfl hl.1 rfl ⟨Nat.le_of_ble_eq_true rfl, Nat.le_of_ble_eq_true rfl⟩ ⟨Nat.le_refl _, Nat.le_refl _⟩ (Nat.le_of_ble_eq_true rfl) dX9_step_29 (fun H locs hP hS _ _ => ?_)
    refine lv_istore_n (lv' := [(1, .int r1), (0, .ref (q 0))]) F.1 F.2.1 dX9_step_32 rfl hl (by decide) rfl (fun ls hl => ?_)
    refine lv_iload_n F.1 F.2.1 dX9_step_33 rfl (lv_at hl 0 rfl) ?_
    refine lv_if_le (tgt := 45) F.1 F.2.1 dX9_step_34 (by decide) (fun c2 => ?_) (fun c2 => ?_)
    · have hs := it_t c2 hs
      refine lv_aload_n F.1 F.2.1 dX9_step_45 rfl (lv_at hl 1 rfl) ?_
      refine lv_aload_n F.1 F.2.1 dX9_step_46 rfl (lv_at hl 1 rfl) ?_
      refine lv_iconst (v := 0) F.1 F.2.1 dX9_step_47 rfl ?_
      obtain ⟨r2, h2, hs⟩ := bn_some hs
      refine x_callI (rest := [.ref (q 0)]) wv_X9_111 F hS (fun _ h => h) hS.2.1 (tX9_byteAt l G A q hq h2) hP (x_recv (ci := 7) F hP rfl (by decide) (eM_0 G q _)) rfl hl.1 rfl ⟨Nat.le_of_ble_eq_true rfl, Nat.le_of_ble_eq_true rfl⟩ ⟨Nat.le_refl _, Nat.le_refl _⟩ (Nat.le_of_ble_eq_true rfl) dX9_step_48 (fun H locs hP hS _ _ => ?_)
      obtain ⟨M2, h3, hs⟩ := bn_some hs
      refine x_callV (rest := []) wv_X9_238 F hS (fun _ h => h) hS.2.1 (tX9_act l G A q hq h3) hP (x_recv (ci := 7) F hP rfl (by decide) (eM_0 G q _)) rfl hl.1 rfl ⟨Nat.le_of_ble_eq_true rfl, Nat.le_of_ble_eq_true rfl⟩ ⟨Nat.le_refl _, Nat.le_refl _⟩ (Nat.le_of_ble_eq_true rfl) dX9_step_51 (fun H locs hP hS _ _ => ?_)
      cases hs
      exact x_vret F hP hS dX9_step_54
    have hs := it_f c2 hs
    refine lv_aload_n F.1 F.2.1 dX9_step_37 rfl (lv_at hl 1 rfl) ?_
    refine lv_iload_n F.1 F.2.1 dX9_step_38 rfl (lv_at hl 0 rfl) ?_
    obtain ⟨M3, h4, hs⟩ := bn_some hs
    refine x_callV (rest := []) wv_X9_185 F hS (fun _ h => h) hS.2.1 (tX9_throwIt l G A q hq h4) hP (x_recv (ci := 7) F hP rfl (by decide) (eM_0 G q _)) rfl hl.1 rfl ⟨Nat.le_of_ble_eq_true rfl, Nat.le_of_ble_eq_true rfl⟩ ⟨Nat.le_refl _, Nat.le_refl _⟩ (Nat.le_of_ble_eq_true rfl) dX9_step_39 (fun H locs hP hS _ _ => ?_)
    refine lv_goto (tgt := 54) F.1 F.2.1 dX9_step_42 (by decide) ?_
    cases hs
    exact x_vret F hP hS dX9_step_54
  have hs := it_t c1 hs
  refine lv_aload_n F.1 F.2.1 dX9_step_11 rfl (lv_at hl 0 rfl) ?_
  refine lv_bipush (v := 10) F.1 F.2.1 dX9_step_12 rfl ?_
  obtain ⟨M4, eM4, hs⟩ := lt_some hs
  refine hM_X9_157 F hq hP hS eM4 dX9_step_14 (fun H locs hP hS => ?_)
  cases hs
  exact x_vret F hP hS dX9_step_17

def pX9_run_b92 (M : St) : Option (Int32 × St) :=
  lt (up2 M 0 21 0) fun M1 =>
  if M1 0 11 = 0 then
    lt (up2 M1 0 23 0) fun M3 =>
    lt (up2 M3 0 34 0) fun M4 =>
    lt (up2 M4 0 33 0) fun M5 =>
    some ((-2), M5)
  else
    if M1 0 13 = 0 then
      some (M1 0 35, M1)
    else
      bn (pX9_undoAll M1) fun M2 =>
      some (M2 0 35, M2)
def pX9_run_b70 : Nat → St → Option (Int32 × St)
  | 0, _ => none
  | n + 1, M =>
    if M 0 11 = 0 then
      pX9_run_b92 M
    else
      if M 0 35 = (-1) then
        bn (pX9_step M) fun M1 =>
        pX9_run_b70 n M1
      else
        pX9_run_b92 M
def pX9_run (M : St) (x1 : Int32) (x2 : Int32) : Option (Int32 × St) :=
  bn (pX9_isIn x1 0 15) fun r1 =>
  if r1 = 0 then
    some ((-1), M)
  else
    bn (pX9_isIn x2 1 3000) fun r2 =>
    if r2 = 0 then
      some ((-1), M)
    else
      lt (up2 M 0 23 0) fun M1 =>
      lt (up2 M1 0 32 0) fun M2 =>
      lt (up2 M2 0 33 0) fun M3 =>
      lt (up2 M3 0 34 0) fun M4 =>
      if M4 0 11 = 0 then
        pX9_run_b92 M4
      else
        lt (up2 M4 0 31 x2) fun M5 =>
        lt (up2 M5 0 24 0) fun M6 =>
        lt (up2 M6 0 35 ((-1))) fun M7 =>
        bn (pX9_enter M7 x1) fun M8 =>
        pX9_run_b70 LF M8
set_option maxHeartbeats 4000000 in
set_option maxRecDepth 100000 in
theorem tX9_run_b92 {G : zG} {A : Nat → Prop} {q : Nat → Nat} (hq : zQD A 21 q) {M M' : St} {r : Int32} (hs : pX9_run_b92 M = some (r, M')) {p : Program} {l : Launch} {e : Env} {s : State} {m : MethodId} {args : Array Value} {below : List Frame} {meth : Method} {c : Code} {H : Heap} {locs : List Loc} {ls : Array Slot} (F : zFx p s m args meth c cX9_run RX9 3 (some .int) G A) (hP : (zP G.1 21 q (eM G q) M) H) (hS : va_S A s.heap H locs) (hl : lv_has ls 3 [(0, .ref (q 0))]) : W p l e { frames := 7, cells := 0, slots := 0, locals := 149 } s m args below meth c H locs 0 0 (MQ below (va_Qi (fun (r' : Int32) (_ : Unit) => r' = r) (fun _ U => (zP G.1 21 q (eM G q) M') U.heap) A) args s 0 0 A) (F0 m 92 ls []) := by
  rw [pX9_run_b92] at hs
  refine lv_aload_n F.1 F.2.1 dX9_run_92 rfl (lv_at hl 0 rfl) ?_
  refine lv_iconst (v := 0) F.1 F.2.1 dX9_run_93 rfl ?_
  obtain ⟨M1, eM1, hs⟩ := lt_some hs
  refine hM_X9_95 F hq hP hS eM1 dX9_run_94 (fun H locs hP hS => ?_)
  refine lv_aload_n F.1 F.2.1 dX9_run_97 rfl (lv_at hl 0 rfl) ?_
  refine gM_X9_38 F hP dX9_run_98 ?_
  refine lv_if_ne (tgt := 122) F.1 F.2.1 dX9_run_101 (by decide) (fun c1 => ?_) (fun c1 => ?_)
  · have hs := it_f c1 hs
    refine lv_aload_n F.1 F.2.1 dX9_run_122 rfl (lv_at hl 0 rfl) ?_
    refine gM_X9_131 F hP dX9_run_123 ?_
    refine lv_if_eq (tgt := 133) F.1 F.2.1 dX9_run_126 (by decide) (fun c2 => ?_) (fun c2 => ?_)
    · have hs := it_t c2 hs
      refine lv_aload_n F.1 F.2.1 dX9_run_133 rfl (lv_at hl 0 rfl) ?_
      refine gM_X9_157 F hP dX9_run_134 ?_
      cases hs
      exact x_iret F rfl rfl hP hS dX9_run_137
    have hs := it_f c2 hs
    refine lv_aload_n F.1 F.2.1 dX9_run_129 rfl (lv_at hl 0 rfl) ?_
    obtain ⟨M2, h1, hs⟩ := bn_some hs
    refine x_callV (rest := []) wv_X9_196 F hS (fun _ h => h) hS.2.1 (tX9_undoAll l G A q hq h1) hP (x_recv (ci := 7) F hP rfl (by decide) (eM_0 G q _)) rfl hl.1 rfl ⟨Nat.le_of_ble_eq_true rfl, Nat.le_of_ble_eq_true rfl⟩ ⟨Nat.le_refl _, Nat.le_refl _⟩ (Nat.le_of_ble_eq_true rfl) dX9_run_130 (fun H locs hP hS _ _ => ?_)
    refine lv_aload_n F.1 F.2.1 dX9_run_133 rfl (lv_at hl 0 rfl) ?_
    refine gM_X9_157 F hP dX9_run_134 ?_
    cases hs
    exact x_iret F rfl rfl hP hS dX9_run_137
  have hs := it_t c1 hs
  refine lv_aload_n F.1 F.2.1 dX9_run_104 rfl (lv_at hl 0 rfl) ?_
  refine lv_iconst (v := 0) F.1 F.2.1 dX9_run_105 rfl ?_
  obtain ⟨M3, eM3, hs⟩ := lt_some hs
  refine hM_X9_141 F hq hP hS eM3 dX9_run_106 (fun H locs hP hS => ?_)
  refine lv_aload_n F.1 F.2.1 dX9_run_109 rfl (lv_at hl 0 rfl) ?_
  refine lv_iconst (v := 0) F.1 F.2.1 dX9_run_110 rfl ?_
  obtain ⟨M4, eM4, hs⟩ := lt_some hs
  refine hM_X9_182 F hq hP hS eM4 dX9_run_111 (fun H locs hP hS => ?_)
  refine lv_aload_n F.1 F.2.1 dX9_run_114 rfl (lv_at hl 0 rfl) ?_
  refine lv_iconst (v := 0) F.1 F.2.1 dX9_run_115 rfl ?_
  obtain ⟨M5, eM5, hs⟩ := lt_some hs
  refine hM_X9_160 F hq hP hS eM5 dX9_run_116 (fun H locs hP hS => ?_)
  refine lv_bipush (v := (-2)) F.1 F.2.1 dX9_run_119 rfl ?_
  cases hs
  exact x_iret F rfl rfl hP hS dX9_run_121
set_option maxHeartbeats 4000000 in
set_option maxRecDepth 100000 in
theorem tX9_run_b70 (n : Nat) {G : zG} {A : Nat → Prop} {q : Nat → Nat} (hq : zQD A 21 q) {M' : St} {r : Int32} : ∀ {M : St} (hs : pX9_run_b70 n M = some (r, M')) {p : Program} {l : Launch} {e : Env} {s : State} {m : MethodId} {args : Array Value} {below : List Frame} {meth : Method} {c : Code} {H : Heap} {locs : List Loc} {ls : Array Slot} (F : zFx p s m args meth c cX9_run RX9 3 (some .int) G A) (hP : (zP G.1 21 q (eM G q) M) H) (hS : va_S A s.heap H locs) (hl : lv_has ls 3 [(0, .ref (q 0))]), W p l e { frames := 7, cells := 0, slots := 0, locals := 149 } s m args below meth c H locs 0 0 (MQ below (va_Qi (fun (r' : Int32) (_ : Unit) => r' = r) (fun _ U => (zP G.1 21 q (eM G q) M') U.heap) A) args s 0 0 A) (F0 m 70 ls []) := by
  induction n with
  | zero =>
    intro M hs p l e s m args below meth c H locs ls F hP hS hl
    rw [pX9_run_b70] at hs
    cases hs
  | succ n ih =>
    intro M hs p l e s m args below meth c H locs ls F hP hS hl
    rw [pX9_run_b70] at hs
    refine lv_aload_n F.1 F.2.1 dX9_run_70 rfl (lv_at hl 0 rfl) ?_
    refine gM_X9_38 F hP dX9_run_71 ?_
    refine lv_if_eq (tgt := 92) F.1 F.2.1 dX9_run_74 (by decide) (fun c1 => ?_) (fun c1 => ?_)
    · have hs := it_t c1 hs
      exact tX9_run_b92 hq hs F hP hS (lv_sub hl [0] rfl)
    have hs := it_f c1 hs
    refine lv_aload_n F.1 F.2.1 dX9_run_77 rfl (lv_at hl 0 rfl) ?_
    refine gM_X9_157 F hP dX9_run_78 ?_
    refine lv_iconst (v := (-1)) F.1 F.2.1 dX9_run_81 rfl ?_
    refine lv_icmp_ne (tgt := 92) F.1 F.2.1 dX9_run_82 (by decide) (fun c2 => ?_) (fun c2 => ?_)
    · have hs := it_f c2 hs
      exact tX9_run_b92 hq hs F hP hS (lv_sub hl [0] rfl)
    have hs := it_t c2 hs
    refine lv_aload_n F.1 F.2.1 dX9_run_85 rfl (lv_at hl 0 rfl) ?_
    obtain ⟨M1, h1, hs⟩ := bn_some hs
    refine x_callV (rest := []) wv_X9_241 F hS (fun _ h => h) hS.2.1 (tX9_step l G A q hq h1) hP (x_recv (ci := 7) F hP rfl (by decide) (eM_0 G q _)) rfl hl.1 rfl ⟨Nat.le_of_ble_eq_true rfl, Nat.le_of_ble_eq_true rfl⟩ ⟨Nat.le_refl _, Nat.le_refl _⟩ (Nat.le_of_ble_eq_true rfl) dX9_run_86 (fun H locs hP hS _ _ => ?_)
    refine lv_goto (tgt := 70) F.1 F.2.1 dX9_run_89 (by decide) ?_
    exact ih hs F hP hS (lv_sub hl [0] rfl)
set_option maxHeartbeats 4000000 in
set_option maxRecDepth 100000 in
theorem tX9_run (l : Launch) (G : zG) (A : Nat → Prop) (q : Nat → Nat) (hq : zQD A 21 q) {M M' : St} {r : Int32} {x1 : Int32} {x2 : Int32} (hs : pX9_run M x1 x2 = some (r, M')) : zKI l yX9_run cX9_run 3 (some .int) 7 149 G A (zP G.1 21 q (eM G q) M) [.ref (q 0), .int x1, .int x2] r (zP G.1 21 q (eM G q) M') := by
  refine zKI_of (by decide) (Nat.le_of_ble_eq_true rfl) (fun p e s m args below meth c H ls F hH hP hl => ?_)
  have F : zFx p s m args meth c cX9_run RX9 3 (some .int) G A := F
  have hS : va_S A s.heap H [] := hH ▸ va_S.rf
  have hl : lv_has ls 3 [(0, .ref (q 0)), (1, .int x1), (2, .int x2)] := hl
  rw [pX9_run] at hs
  refine lv_iload_n F.1 F.2.1 dX9_run_0 rfl (lv_at hl 1 rfl) ?_
  refine lv_iconst (v := 0) F.1 F.2.1 dX9_run_1 rfl ?_
  refine lv_bipush (v := 15) F.1 F.2.1 dX9_run_2 rfl ?_
  obtain ⟨r1, h1, hs⟩ := bn_some hs
  refine x_callSI (rest := []) wv_X9_89 F hS (fun _ h => h) hS.2.1 (tX9_isIn l G A (zP G.1 21 q (eM G q) M) h1) hP rfl hl.1 rfl ⟨Nat.le_of_ble_eq_true rfl, Nat.le_of_ble_eq_true rfl⟩ ⟨Nat.le_refl _, Nat.le_refl _⟩ (Nat.le_of_ble_eq_true rfl) dX9_run_4 (fun H locs hP hS _ _ => ?_)
  refine lv_if_eq (tgt := 21) F.1 F.2.1 dX9_run_7 (by decide) (fun c1 => ?_) (fun c1 => ?_)
  · have hs := it_t c1 hs
    refine lv_iconst (v := (-1)) F.1 F.2.1 dX9_run_21 rfl ?_
    cases hs
    exact x_iret F rfl rfl hP hS dX9_run_22
  have hs := it_f c1 hs
  refine lv_iload_n F.1 F.2.1 dX9_run_10 rfl (lv_at hl 2 rfl) ?_
  refine lv_iconst (v := 1) F.1 F.2.1 dX9_run_11 rfl ?_
  refine lv_sipush (v := 3000) F.1 F.2.1 dX9_run_12 rfl ?_
  obtain ⟨r2, h2, hs⟩ := bn_some hs
  refine x_callSI (rest := []) wv_X9_89 F hS (fun _ h => h) hS.2.1 (tX9_isIn l G A (zP G.1 21 q (eM G q) M) h2) hP rfl hl.1 rfl ⟨Nat.le_of_ble_eq_true rfl, Nat.le_of_ble_eq_true rfl⟩ ⟨Nat.le_refl _, Nat.le_refl _⟩ (Nat.le_of_ble_eq_true rfl) dX9_run_15 (fun H locs hP hS _ _ => ?_)
  refine lv_if_ne (tgt := 23) F.1 F.2.1 dX9_run_18 (by decide) (fun c2 => ?_) (fun c2 => ?_)
  · have hs := it_f c2 hs
    refine lv_aload_n F.1 F.2.1 dX9_run_23 rfl (lv_at hl 0 rfl) ?_
    refine lv_iconst (v := 0) F.1 F.2.1 dX9_run_24 rfl ?_
    obtain ⟨M1, eM1, hs⟩ := lt_some hs
    refine hM_X9_141 F hq hP hS eM1 dX9_run_25 (fun H locs hP hS => ?_)
    refine lv_aload_n F.1 F.2.1 dX9_run_28 rfl (lv_at hl 0 rfl) ?_
    refine lv_iconst (v := 0) F.1 F.2.1 dX9_run_29 rfl ?_
    obtain ⟨M2, eM2, hs⟩ := lt_some hs
    refine hM_X9_176 F hq hP hS eM2 dX9_run_30 (fun H locs hP hS => ?_)
    refine lv_aload_n F.1 F.2.1 dX9_run_33 rfl (lv_at hl 0 rfl) ?_
    refine lv_iconst (v := 0) F.1 F.2.1 dX9_run_34 rfl ?_
    obtain ⟨M3, eM3, hs⟩ := lt_some hs
    refine hM_X9_160 F hq hP hS eM3 dX9_run_35 (fun H locs hP hS => ?_)
    refine lv_aload_n F.1 F.2.1 dX9_run_38 rfl (lv_at hl 0 rfl) ?_
    refine lv_iconst (v := 0) F.1 F.2.1 dX9_run_39 rfl ?_
    obtain ⟨M4, eM4, hs⟩ := lt_some hs
    refine hM_X9_182 F hq hP hS eM4 dX9_run_40 (fun H locs hP hS => ?_)
    refine lv_aload_n F.1 F.2.1 dX9_run_43 rfl (lv_at hl 0 rfl) ?_
    refine gM_X9_38 F hP dX9_run_44 ?_
    refine lv_if_eq (tgt := 92) F.1 F.2.1 dX9_run_47 (by decide) (fun c3 => ?_) (fun c3 => ?_)
    · have hs := it_t c3 hs
      exact tX9_run_b92 hq hs F hP hS (lv_sub hl [0] rfl)
    have hs := it_f c3 hs
    refine lv_aload_n F.1 F.2.1 dX9_run_50 rfl (lv_at hl 0 rfl) ?_
    refine lv_iload_n F.1 F.2.1 dX9_run_51 rfl (lv_at hl 2 rfl) ?_
    obtain ⟨M5, eM5, hs⟩ := lt_some hs
    refine hM_X9_173 F hq hP hS eM5 dX9_run_52 (fun H locs hP hS => ?_)
    refine lv_aload_n F.1 F.2.1 dX9_run_55 rfl (lv_at hl 0 rfl) ?_
    refine lv_iconst (v := 0) F.1 F.2.1 dX9_run_56 rfl ?_
    obtain ⟨M6, eM6, hs⟩ := lt_some hs
    refine hM_X9_98 F hq hP hS eM6 dX9_run_57 (fun H locs hP hS => ?_)
    refine lv_aload_n F.1 F.2.1 dX9_run_60 rfl (lv_at hl 0 rfl) ?_
    refine lv_iconst (v := (-1)) F.1 F.2.1 dX9_run_61 rfl ?_
    obtain ⟨M7, eM7, hs⟩ := lt_some hs
    refine hM_X9_157 F hq hP hS eM7 dX9_run_62 (fun H locs hP hS => ?_)
    refine lv_aload_n F.1 F.2.1 dX9_run_65 rfl (lv_at hl 0 rfl) ?_
    refine lv_iload_n F.1 F.2.1 dX9_run_66 rfl (lv_at hl 1 rfl) ?_
    obtain ⟨M8, h3, hs⟩ := bn_some hs
    refine x_callV (rest := []) wv_X9_179 F hS (fun _ h => h) hS.2.1 (tX9_enter l G A q hq h3) hP (x_recv (ci := 7) F hP rfl (by decide) (eM_0 G q _)) rfl hl.1 rfl ⟨Nat.le_of_ble_eq_true rfl, Nat.le_of_ble_eq_true rfl⟩ ⟨Nat.le_refl _, Nat.le_refl _⟩ (Nat.le_of_ble_eq_true rfl) dX9_run_67 (fun H locs hP hS _ _ => ?_)
    exact tX9_run_b70 LF hq hs F hP hS (lv_sub hl [0] rfl)
  have hs := it_t c2 hs
  refine lv_iconst (v := (-1)) F.1 F.2.1 dX9_run_21 rfl ?_
  cases hs
  exact x_iret F rfl rfl hP hS dX9_run_22

def pX9_thrown0 (M : St) : Option Int32 :=
  some (M 0 33)
set_option maxHeartbeats 4000000 in
set_option maxRecDepth 100000 in
theorem tX9_thrown0 (l : Launch) (G : zG) (A : Nat → Prop) (q : Nat → Nat) (hq : zQD A 21 q) {M : St} {r : Int32} (hs : pX9_thrown0 M = some r) : zKI l yX9_thrown0 cX9_thrown0 1 (some .int) 0 0 G A (zP G.1 21 q (eM G q) M) [.ref (q 0)] r (zP G.1 21 q (eM G q) M) := by
  refine zKI_of (by decide) (Nat.le_of_ble_eq_true rfl) (fun p e s m args below meth c H ls F hH hP hl => ?_)
  have F : zFx p s m args meth c cX9_thrown0 RX9 1 (some .int) G A := F
  have hS : va_S A s.heap H [] := hH ▸ va_S.rf
  have hl : lv_has ls 1 [(0, .ref (q 0))] := hl
  rw [pX9_thrown0] at hs
  refine lv_aload_n F.1 F.2.1 dX9_thrown0_0 rfl (lv_at hl 0 rfl) ?_
  refine gM_X9_160 F hP dX9_thrown0_1 ?_
  cases hs
  exact x_iret F rfl rfl hP hS dX9_thrown0_4

def pX9_value (M : St) : Option Int32 :=
  some (M 0 34)
set_option maxHeartbeats 4000000 in
set_option maxRecDepth 100000 in
theorem tX9_value (l : Launch) (G : zG) (A : Nat → Prop) (q : Nat → Nat) (hq : zQD A 21 q) {M : St} {r : Int32} (hs : pX9_value M = some r) : zKI l yX9_value cX9_value 1 (some .int) 0 0 G A (zP G.1 21 q (eM G q) M) [.ref (q 0)] r (zP G.1 21 q (eM G q) M) := by
  refine zKI_of (by decide) (Nat.le_of_ble_eq_true rfl) (fun p e s m args below meth c H ls F hH hP hl => ?_)
  have F : zFx p s m args meth c cX9_value RX9 1 (some .int) G A := F
  have hS : va_S A s.heap H [] := hH ▸ va_S.rf
  have hl : lv_has ls 1 [(0, .ref (q 0))] := hl
  rw [pX9_value] at hs
  refine lv_aload_n F.1 F.2.1 dX9_value_0 rfl (lv_at hl 0 rfl) ?_
  refine gM_X9_182 F hP dX9_value_1 ?_
  cases hs
  exact x_iret F rfl rfl hP hS dX9_value_4

def pX9_reply (M : St) (x1 : Int32) : Option Int32 :=
  if x1 < 0 then
    some ((-1))
  else
    if M 0 23 ≤ x1 then
      some ((-1))
    else
      gd (inb x1 32) <|
      some (M 13 (ix x1))
set_option maxHeartbeats 4000000 in
set_option maxRecDepth 100000 in
theorem tX9_reply (l : Launch) (G : zG) (A : Nat → Prop) (q : Nat → Nat) (hq : zQD A 21 q) {M : St} {r : Int32} {x1 : Int32} (hs : pX9_reply M x1 = some r) : zKI l yX9_reply cX9_reply 2 (some .int) 0 0 G A (zP G.1 21 q (eM G q) M) [.ref (q 0), .int x1] r (zP G.1 21 q (eM G q) M) := by
  refine zKI_of (by decide) (Nat.le_of_ble_eq_true rfl) (fun p e s m args below meth c H ls F hH hP hl => ?_)
  have F : zFx p s m args meth c cX9_reply RX9 2 (some .int) G A := F
  have hS : va_S A s.heap H [] := hH ▸ va_S.rf
  have hl : lv_has ls 2 [(0, .ref (q 0)), (1, .int x1)] := hl
  rw [pX9_reply] at hs
  refine lv_iload_n F.1 F.2.1 dX9_reply_0 rfl (lv_at hl 1 rfl) ?_
  refine lv_if_lt (tgt := 21) F.1 F.2.1 dX9_reply_1 (by decide) (fun c1 => ?_) (fun c1 => ?_)
  · have hs := it_t c1 hs
    refine lv_iconst (v := (-1)) F.1 F.2.1 dX9_reply_21 rfl ?_
    cases hs
    exact x_iret F rfl rfl hP hS dX9_reply_22
  have hs := it_f c1 hs
  refine lv_iload_n F.1 F.2.1 dX9_reply_4 rfl (lv_at hl 1 rfl) ?_
  refine lv_aload_n F.1 F.2.1 dX9_reply_5 rfl (lv_at hl 0 rfl) ?_
  refine gM_X9_141 F hP dX9_reply_6 ?_
  refine lv_icmp_ge (tgt := 21) F.1 F.2.1 dX9_reply_9 (by decide) (fun c2 => ?_) (fun c2 => ?_)
  · have hs := it_t c2 hs
    refine lv_iconst (v := (-1)) F.1 F.2.1 dX9_reply_21 rfl ?_
    cases hs
    exact x_iret F rfl rfl hP hS dX9_reply_22
  have hs := it_f c2 hs
  refine lv_aload_n F.1 F.2.1 dX9_reply_12 rfl (lv_at hl 0 rfl) ?_
  refine gM_X9_55 F hP dX9_reply_13 ?_
  refine lv_iload_n F.1 F.2.1 dX9_reply_16 rfl (lv_at hl 1 rfl) ?_
  obtain ⟨g1, hs⟩ := gd_some hs
  refine x_iald F hP (arM_13 G q) g1 dX9_reply_17 ?_
  refine lv_goto (tgt := 22) F.1 F.2.1 dX9_reply_18 (by decide) ?_
  cases hs
  exact x_iret F rfl rfl hP hS dX9_reply_22

def pX9_used (M : St) : Option Int32 :=
  some (M 0 32)
set_option maxHeartbeats 4000000 in
set_option maxRecDepth 100000 in
theorem tX9_used (l : Launch) (G : zG) (A : Nat → Prop) (q : Nat → Nat) (hq : zQD A 21 q) {M : St} {r : Int32} (hs : pX9_used M = some r) : zKI l yX9_used cX9_used 1 (some .int) 0 0 G A (zP G.1 21 q (eM G q) M) [.ref (q 0)] r (zP G.1 21 q (eM G q) M) := by
  refine zKI_of (by decide) (Nat.le_of_ble_eq_true rfl) (fun p e s m args below meth c H ls F hH hP hl => ?_)
  have F : zFx p s m args meth c cX9_used RX9 1 (some .int) G A := F
  have hS : va_S A s.heap H [] := hH ▸ va_S.rf
  have hl : lv_has ls 1 [(0, .ref (q 0))] := hl
  rw [pX9_used] at hs
  refine lv_aload_n F.1 F.2.1 dX9_used_0 rfl (lv_at hl 0 rfl) ?_
  refine gM_X9_176 F hP dX9_used_1 ?_
  cases hs
  exact x_iret F rfl rfl hP hS dX9_used_4

def pX9_tear (M : St) (x1 : Int32) : Option (Int32 × St) :=
  if 0 ≤ x1 then
    lt (up2 M 0 12 x1) fun M1 =>
    some (1, M1)
  else
    lt (up2 M 0 12 ((-1))) fun M2 =>
    some (1, M2)
set_option maxHeartbeats 4000000 in
set_option maxRecDepth 100000 in
theorem tX9_tear (l : Launch) (G : zG) (A : Nat → Prop) (q : Nat → Nat) (hq : zQD A 21 q) {M M' : St} {r : Int32} {x1 : Int32} (hs : pX9_tear M x1 = some (r, M')) : zKI l yX9_tear cX9_tear 2 (some .int) 0 0 G A (zP G.1 21 q (eM G q) M) [.ref (q 0), .int x1] r (zP G.1 21 q (eM G q) M') := by
  refine zKI_of (by decide) (Nat.le_of_ble_eq_true rfl) (fun p e s m args below meth c H ls F hH hP hl => ?_)
  have F : zFx p s m args meth c cX9_tear RX9 2 (some .int) G A := F
  have hS : va_S A s.heap H [] := hH ▸ va_S.rf
  have hl : lv_has ls 2 [(0, .ref (q 0)), (1, .int x1)] := hl
  rw [pX9_tear] at hs
  refine lv_aload_n F.1 F.2.1 dX9_tear_0 rfl (lv_at hl 0 rfl) ?_
  refine lv_iload_n F.1 F.2.1 dX9_tear_1 rfl (lv_at hl 1 rfl) ?_
  refine lv_if_ge (tgt := 9) F.1 F.2.1 dX9_tear_2 (by decide) (fun c1 => ?_) (fun c1 => ?_)
  · have hs := it_t c1 hs
    refine lv_iload_n F.1 F.2.1 dX9_tear_9 rfl (lv_at hl 1 rfl) ?_
    obtain ⟨M1, eM1, hs⟩ := lt_some hs
    refine hM_X9_42 F hq hP hS eM1 dX9_tear_10 (fun H locs hP hS => ?_)
    refine lv_iconst (v := 1) F.1 F.2.1 dX9_tear_13 rfl ?_
    cases hs
    exact x_iret F rfl rfl hP hS dX9_tear_14
  have hs := it_f c1 hs
  refine lv_iconst (v := (-1)) F.1 F.2.1 dX9_tear_5 rfl ?_
  refine lv_goto (tgt := 10) F.1 F.2.1 dX9_tear_6 (by decide) ?_
  obtain ⟨M2, eM2, hs⟩ := lt_some hs
  refine hM_X9_42 F hq hP hS eM2 dX9_tear_10 (fun H locs hP hS => ?_)
  refine lv_iconst (v := 1) F.1 F.2.1 dX9_tear_13 rfl ?_
  cases hs
  exact x_iret F rfl rfl hP hS dX9_tear_14

def pX9_reset (M : St) : Option (Int32 × St) :=
  if M 0 11 = 0 then
    lt (up2 M 0 11 1) fun M1 =>
    if M1 0 13 = 0 then
      some (0, M1)
    else
      bn (pX9_undoAll M1) fun M2 =>
      some (1, M2)
  else
    some (0, M)
set_option maxHeartbeats 4000000 in
set_option maxRecDepth 100000 in
theorem tX9_reset (l : Launch) (G : zG) (A : Nat → Prop) (q : Nat → Nat) (hq : zQD A 21 q) {M M' : St} {r : Int32} (hs : pX9_reset M = some (r, M')) : zKI l yX9_reset cX9_reset 1 (some .int) 1 21 G A (zP G.1 21 q (eM G q) M) [.ref (q 0)] r (zP G.1 21 q (eM G q) M') := by
  refine zKI_of (by decide) (Nat.le_of_ble_eq_true rfl) (fun p e s m args below meth c H ls F hH hP hl => ?_)
  have F : zFx p s m args meth c cX9_reset RX9 1 (some .int) G A := F
  have hS : va_S A s.heap H [] := hH ▸ va_S.rf
  have hl : lv_has ls 1 [(0, .ref (q 0))] := hl
  rw [pX9_reset] at hs
  refine lv_aload_n F.1 F.2.1 dX9_reset_0 rfl (lv_at hl 0 rfl) ?_
  refine gM_X9_38 F hP dX9_reset_1 ?_
  refine lv_if_eq (tgt := 9) F.1 F.2.1 dX9_reset_4 (by decide) (fun c1 => ?_) (fun c1 => ?_)
  · have hs := it_t c1 hs
    refine lv_aload_n F.1 F.2.1 dX9_reset_9 rfl (lv_at hl 0 rfl) ?_
    refine lv_iconst (v := 1) F.1 F.2.1 dX9_reset_10 rfl ?_
    obtain ⟨M1, eM1, hs⟩ := lt_some hs
    refine hM_X9_38 rfl F hq hP hS eM1 dX9_reset_11 (fun H locs hP hS => ?_)
    refine lv_aload_n F.1 F.2.1 dX9_reset_14 rfl (lv_at hl 0 rfl) ?_
    refine gM_X9_131 F hP dX9_reset_15 ?_
    refine lv_if_ne (tgt := 23) F.1 F.2.1 dX9_reset_18 (by decide) (fun c2 => ?_) (fun c2 => ?_)
    · have hs := it_f c2 hs
      refine lv_aload_n F.1 F.2.1 dX9_reset_23 rfl (lv_at hl 0 rfl) ?_
      obtain ⟨M2, h1, hs⟩ := bn_some hs
      refine x_callV (rest := []) wv_X9_196 F hS (fun _ h => h) hS.2.1 (tX9_undoAll l G A q hq h1) hP (x_recv (ci := 7) F hP rfl (by decide) (eM_0 G q _)) rfl hl.1 rfl ⟨Nat.le_of_ble_eq_true rfl, Nat.le_of_ble_eq_true rfl⟩ ⟨Nat.le_refl _, Nat.le_refl _⟩ (Nat.le_of_ble_eq_true rfl) dX9_reset_24 (fun H locs hP hS _ _ => ?_)
      refine lv_iconst (v := 1) F.1 F.2.1 dX9_reset_27 rfl ?_
      cases hs
      exact x_iret F rfl rfl hP hS dX9_reset_28
    have hs := it_t c2 hs
    refine lv_iconst (v := 0) F.1 F.2.1 dX9_reset_21 rfl ?_
    cases hs
    exact x_iret F rfl rfl hP hS dX9_reset_22
  have hs := it_f c1 hs
  refine lv_iconst (v := 0) F.1 F.2.1 dX9_reset_7 rfl ?_
  cases hs
  exact x_iret F rfl rfl hP hS dX9_reset_8

def pX9_objects (M : St) : Option Int32 :=
  if M 0 11 = 0 then
    some ((-1))
  else
    some (M 0 4)
set_option maxHeartbeats 4000000 in
set_option maxRecDepth 100000 in
theorem tX9_objects (l : Launch) (G : zG) (A : Nat → Prop) (q : Nat → Nat) (hq : zQD A 21 q) {M : St} {r : Int32} (hs : pX9_objects M = some r) : zKI l yX9_objects cX9_objects 1 (some .int) 0 0 G A (zP G.1 21 q (eM G q) M) [.ref (q 0)] r (zP G.1 21 q (eM G q) M) := by
  refine zKI_of (by decide) (Nat.le_of_ble_eq_true rfl) (fun p e s m args below meth c H ls F hH hP hl => ?_)
  have F : zFx p s m args meth c cX9_objects RX9 1 (some .int) G A := F
  have hS : va_S A s.heap H [] := hH ▸ va_S.rf
  have hl : lv_has ls 1 [(0, .ref (q 0))] := hl
  rw [pX9_objects] at hs
  refine lv_aload_n F.1 F.2.1 dX9_objects_0 rfl (lv_at hl 0 rfl) ?_
  refine gM_X9_38 F hP dX9_objects_1 ?_
  refine lv_if_eq (tgt := 14) F.1 F.2.1 dX9_objects_4 (by decide) (fun c1 => ?_) (fun c1 => ?_)
  · have hs := it_t c1 hs
    refine lv_iconst (v := (-1)) F.1 F.2.1 dX9_objects_14 rfl ?_
    cases hs
    exact x_iret F rfl rfl hP hS dX9_objects_15
  have hs := it_f c1 hs
  refine lv_aload_n F.1 F.2.1 dX9_objects_7 rfl (lv_at hl 0 rfl) ?_
  refine gM_X9_83 F hP dX9_objects_8 ?_
  refine lv_goto (tgt := 15) F.1 F.2.1 dX9_objects_11 (by decide) ?_
  cases hs
  exact x_iret F rfl rfl hP hS dX9_objects_15

def pX9_told (M : St) (x1 : Int32) (x2 : Int32) : Option Int32 :=
  if M 0 11 = 0 then
    some ((-1))
  else
    bn (pX9_isObject M x1) fun r1 =>
    if r1 = 0 then
      some ((-1))
    else
      bn (pX9_isIn x2 0 2) fun r2 =>
      if r2 = 0 then
        some ((-1))
      else
        if x2 = 0 then
          gd (inb x1 41) <|
          some (M 5 (ix x1))
        else
          if x2 = 1 then
            gd (inb x1 41) <|
            some (M 6 (ix x1))
          else
            gd (inb x1 41) <|
            some (M 7 (ix x1))
set_option maxHeartbeats 4000000 in
set_option maxRecDepth 100000 in
theorem tX9_told (l : Launch) (G : zG) (A : Nat → Prop) (q : Nat → Nat) (hq : zQD A 21 q) {M : St} {r : Int32} {x1 : Int32} {x2 : Int32} (hs : pX9_told M x1 x2 = some r) : zKI l yX9_told cX9_told 3 (some .int) 1 22 G A (zP G.1 21 q (eM G q) M) [.ref (q 0), .int x1, .int x2] r (zP G.1 21 q (eM G q) M) := by
  refine zKI_of (by decide) (Nat.le_of_ble_eq_true rfl) (fun p e s m args below meth c H ls F hH hP hl => ?_)
  have F : zFx p s m args meth c cX9_told RX9 3 (some .int) G A := F
  have hS : va_S A s.heap H [] := hH ▸ va_S.rf
  have hl : lv_has ls 3 [(0, .ref (q 0)), (1, .int x1), (2, .int x2)] := hl
  rw [pX9_told] at hs
  refine lv_aload_n F.1 F.2.1 dX9_told_0 rfl (lv_at hl 0 rfl) ?_
  refine gM_X9_38 F hP dX9_told_1 ?_
  refine lv_if_eq (tgt := 24) F.1 F.2.1 dX9_told_4 (by decide) (fun c1 => ?_) (fun c1 => ?_)
  · have hs := it_t c1 hs
    refine lv_iconst (v := (-1)) F.1 F.2.1 dX9_told_24 rfl ?_
    cases hs
    exact x_iret F rfl rfl hP hS dX9_told_25
  have hs := it_f c1 hs
  refine lv_aload_n F.1 F.2.1 dX9_told_7 rfl (lv_at hl 0 rfl) ?_
  refine lv_iload_n F.1 F.2.1 dX9_told_8 rfl (lv_at hl 1 rfl) ?_
  obtain ⟨r1, h1, hs⟩ := bn_some hs
  refine x_callI (rest := []) wv_X9_124 F hS (fun _ h => h) hS.2.1 (tX9_isObject l G A q hq h1) hP (x_recv (ci := 7) F hP rfl (by decide) (eM_0 G q _)) rfl hl.1 rfl ⟨Nat.le_of_ble_eq_true rfl, Nat.le_of_ble_eq_true rfl⟩ ⟨Nat.le_refl _, Nat.le_refl _⟩ (Nat.le_of_ble_eq_true rfl) dX9_told_9 (fun H locs hP hS _ _ => ?_)
  refine lv_if_eq (tgt := 24) F.1 F.2.1 dX9_told_12 (by decide) (fun c2 => ?_) (fun c2 => ?_)
  · have hs := it_t c2 hs
    refine lv_iconst (v := (-1)) F.1 F.2.1 dX9_told_24 rfl ?_
    cases hs
    exact x_iret F rfl rfl hP hS dX9_told_25
  have hs := it_f c2 hs
  refine lv_iload_n F.1 F.2.1 dX9_told_15 rfl (lv_at hl 2 rfl) ?_
  refine lv_iconst (v := 0) F.1 F.2.1 dX9_told_16 rfl ?_
  refine lv_iconst (v := 2) F.1 F.2.1 dX9_told_17 rfl ?_
  obtain ⟨r2, h2, hs⟩ := bn_some hs
  refine x_callSI (rest := []) wv_X9_89 F hS (fun _ h => h) hS.2.1 (tX9_isIn l G A (zP G.1 21 q (eM G q) M) h2) hP rfl hl.1 rfl ⟨Nat.le_of_ble_eq_true rfl, Nat.le_of_ble_eq_true rfl⟩ ⟨Nat.le_refl _, Nat.le_refl _⟩ (Nat.le_of_ble_eq_true rfl) dX9_told_18 (fun H locs hP hS _ _ => ?_)
  refine lv_if_ne (tgt := 26) F.1 F.2.1 dX9_told_21 (by decide) (fun c3 => ?_) (fun c3 => ?_)
  · have hs := it_f c3 hs
    refine lv_iload_n F.1 F.2.1 dX9_told_26 rfl (lv_at hl 2 rfl) ?_
    refine lv_if_ne (tgt := 39) F.1 F.2.1 dX9_told_27 (by decide) (fun c4 => ?_) (fun c4 => ?_)
    · have hs := it_f c4 hs
      refine lv_iload_n F.1 F.2.1 dX9_told_39 rfl (lv_at hl 2 rfl) ?_
      refine lv_iconst (v := 1) F.1 F.2.1 dX9_told_40 rfl ?_
      refine lv_icmp_ne (tgt := 53) F.1 F.2.1 dX9_told_41 (by decide) (fun c5 => ?_) (fun c5 => ?_)
      · have hs := it_f c5 hs
        refine lv_aload_n F.1 F.2.1 dX9_told_53 rfl (lv_at hl 0 rfl) ?_
        refine gM_X9_29 F hP dX9_told_54 ?_
        refine lv_iload_n F.1 F.2.1 dX9_told_57 rfl (lv_at hl 1 rfl) ?_
        obtain ⟨g1, hs⟩ := gd_some hs
        refine x_iald F hP (arM_7 G q) g1 dX9_told_58 ?_
        cases hs
        exact x_iret F rfl rfl hP hS dX9_told_59
      have hs := it_t c5 hs
      refine lv_aload_n F.1 F.2.1 dX9_told_44 rfl (lv_at hl 0 rfl) ?_
      refine gM_X9_26 F hP dX9_told_45 ?_
      refine lv_iload_n F.1 F.2.1 dX9_told_48 rfl (lv_at hl 1 rfl) ?_
      obtain ⟨g2, hs⟩ := gd_some hs
      refine x_iald F hP (arM_6 G q) g2 dX9_told_49 ?_
      refine lv_goto (tgt := 59) F.1 F.2.1 dX9_told_50 (by decide) ?_
      cases hs
      exact x_iret F rfl rfl hP hS dX9_told_59
    have hs := it_t c4 hs
    refine lv_aload_n F.1 F.2.1 dX9_told_30 rfl (lv_at hl 0 rfl) ?_
    refine gM_X9_23 F hP dX9_told_31 ?_
    refine lv_iload_n F.1 F.2.1 dX9_told_34 rfl (lv_at hl 1 rfl) ?_
    obtain ⟨g3, hs⟩ := gd_some hs
    refine x_iald F hP (arM_5 G q) g3 dX9_told_35 ?_
    refine lv_goto (tgt := 59) F.1 F.2.1 dX9_told_36 (by decide) ?_
    cases hs
    exact x_iret F rfl rfl hP hS dX9_told_59
  have hs := it_t c3 hs
  refine lv_iconst (v := (-1)) F.1 F.2.1 dX9_told_24 rfl ?_
  cases hs
  exact x_iret F rfl rfl hP hS dX9_told_25

def pX9_cell (M : St) (x1 : Int32) (x2 : Int32) : Option Int32 :=
  if M 0 11 = 0 then
    some 0
  else
    bn (pX9_isObject M x1) fun r1 =>
    if r1 = 0 then
      some 0
    else
      gd (inb x1 41) <|
      bn (pX9_isIn x2 0 ((M 7 (ix x1)) - 1)) fun r2 =>
      if r2 = 0 then
        some 0
      else
        gd (inb x1 41) <|
        gd (inb ((M 8 (ix x1)) + x2) 240) <|
        some (M 9 (ix ((M 8 (ix x1)) + x2)))
set_option maxHeartbeats 4000000 in
set_option maxRecDepth 100000 in
theorem tX9_cell (l : Launch) (G : zG) (A : Nat → Prop) (q : Nat → Nat) (hq : zQD A 21 q) {M : St} {r : Int32} {x1 : Int32} {x2 : Int32} (hs : pX9_cell M x1 x2 = some r) : zKI l yX9_cell cX9_cell 3 (some .int) 1 22 G A (zP G.1 21 q (eM G q) M) [.ref (q 0), .int x1, .int x2] r (zP G.1 21 q (eM G q) M) := by
  refine zKI_of (by decide) (Nat.le_of_ble_eq_true rfl) (fun p e s m args below meth c H ls F hH hP hl => ?_)
  have F : zFx p s m args meth c cX9_cell RX9 3 (some .int) G A := F
  have hS : va_S A s.heap H [] := hH ▸ va_S.rf
  have hl : lv_has ls 3 [(0, .ref (q 0)), (1, .int x1), (2, .int x2)] := hl
  rw [pX9_cell] at hs
  refine lv_aload_n F.1 F.2.1 dX9_cell_0 rfl (lv_at hl 0 rfl) ?_
  refine gM_X9_38 F hP dX9_cell_1 ?_
  refine lv_if_eq (tgt := 47) F.1 F.2.1 dX9_cell_4 (by decide) (fun c1 => ?_) (fun c1 => ?_)
  · have hs := it_t c1 hs
    refine lv_iconst (v := 0) F.1 F.2.1 dX9_cell_47 rfl ?_
    cases hs
    exact x_iret F rfl rfl hP hS dX9_cell_48
  have hs := it_f c1 hs
  refine lv_aload_n F.1 F.2.1 dX9_cell_7 rfl (lv_at hl 0 rfl) ?_
  refine lv_iload_n F.1 F.2.1 dX9_cell_8 rfl (lv_at hl 1 rfl) ?_
  obtain ⟨r1, h1, hs⟩ := bn_some hs
  refine x_callI (rest := []) wv_X9_124 F hS (fun _ h => h) hS.2.1 (tX9_isObject l G A q hq h1) hP (x_recv (ci := 7) F hP rfl (by decide) (eM_0 G q _)) rfl hl.1 rfl ⟨Nat.le_of_ble_eq_true rfl, Nat.le_of_ble_eq_true rfl⟩ ⟨Nat.le_refl _, Nat.le_refl _⟩ (Nat.le_of_ble_eq_true rfl) dX9_cell_9 (fun H locs hP hS _ _ => ?_)
  refine lv_if_eq (tgt := 47) F.1 F.2.1 dX9_cell_12 (by decide) (fun c2 => ?_) (fun c2 => ?_)
  · have hs := it_t c2 hs
    refine lv_iconst (v := 0) F.1 F.2.1 dX9_cell_47 rfl ?_
    cases hs
    exact x_iret F rfl rfl hP hS dX9_cell_48
  have hs := it_f c2 hs
  refine lv_iload_n F.1 F.2.1 dX9_cell_15 rfl (lv_at hl 2 rfl) ?_
  refine lv_iconst (v := 0) F.1 F.2.1 dX9_cell_16 rfl ?_
  refine lv_aload_n F.1 F.2.1 dX9_cell_17 rfl (lv_at hl 0 rfl) ?_
  refine gM_X9_29 F hP dX9_cell_18 ?_
  refine lv_iload_n F.1 F.2.1 dX9_cell_21 rfl (lv_at hl 1 rfl) ?_
  obtain ⟨g1, hs⟩ := gd_some hs
  refine x_iald F hP (arM_7 G q) g1 dX9_cell_22 ?_
  refine lv_iconst (v := 1) F.1 F.2.1 dX9_cell_23 rfl ?_
  refine lv_isub F.1 F.2.1 dX9_cell_24 ?_
  obtain ⟨r2, h2, hs⟩ := bn_some hs
  refine x_callSI (rest := []) wv_X9_89 F hS (fun _ h => h) hS.2.1 (tX9_isIn l G A (zP G.1 21 q (eM G q) M) h2) hP rfl hl.1 rfl ⟨Nat.le_of_ble_eq_true rfl, Nat.le_of_ble_eq_true rfl⟩ ⟨Nat.le_refl _, Nat.le_refl _⟩ (Nat.le_of_ble_eq_true rfl) dX9_cell_25 (fun H locs hP hS _ _ => ?_)
  refine lv_if_eq (tgt := 47) F.1 F.2.1 dX9_cell_28 (by decide) (fun c3 => ?_) (fun c3 => ?_)
  · have hs := it_t c3 hs
    refine lv_iconst (v := 0) F.1 F.2.1 dX9_cell_47 rfl ?_
    cases hs
    exact x_iret F rfl rfl hP hS dX9_cell_48
  have hs := it_f c3 hs
  refine lv_aload_n F.1 F.2.1 dX9_cell_31 rfl (lv_at hl 0 rfl) ?_
  refine gM_X9_35 F hP dX9_cell_32 ?_
  refine lv_aload_n F.1 F.2.1 dX9_cell_35 rfl (lv_at hl 0 rfl) ?_
  refine gM_X9_32 F hP dX9_cell_36 ?_
  refine lv_iload_n F.1 F.2.1 dX9_cell_39 rfl (lv_at hl 1 rfl) ?_
  obtain ⟨g2, hs⟩ := gd_some hs
  refine x_iald F hP (arM_8 G q) g2 dX9_cell_40 ?_
  refine lv_iload_n F.1 F.2.1 dX9_cell_41 rfl (lv_at hl 2 rfl) ?_
  refine lv_iadd F.1 F.2.1 dX9_cell_42 ?_
  obtain ⟨g3, hs⟩ := gd_some hs
  refine x_iald F hP (arM_9 G q) g3 dX9_cell_43 ?_
  refine lv_goto (tgt := 48) F.1 F.2.1 dX9_cell_44 (by decide) ?_
  cases hs
  exact x_iret F rfl rfl hP hS dX9_cell_48
