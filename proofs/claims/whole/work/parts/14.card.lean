def pX8_isByte (x0 : Int32) : Option Int32 :=
  if x0 < 0 then
    some 0
  else
    if 255 < x0 then
      some 0
    else
      some 1
set_option maxHeartbeats 4000000 in
set_option maxRecDepth 100000 in
theorem tX8_isByte (l : Launch) (G : zG) (A : Nat → Prop) (P0 : Heap → Prop) {r : Int32} {x0 : Int32} (hs : pX8_isByte x0 = some r) : zKI l yX8_isByte cX8_isByte 1 (some .boolean) 0 0 G A P0 [.int x0] r P0 := by
  refine zKI_of (by decide) (Nat.le_of_ble_eq_true rfl) (fun p e s m args below meth c H ls F hH hP hl => ?_)
  have F : zFx p s m args meth c cX8_isByte RX8 1 (some .boolean) G A := F
  have hS : va_S A s.heap H [] := hH ▸ va_S.rf
  have hl : lv_has ls 1 [(0, .int x0)] := hl
  rw [pX8_isByte] at hs
  refine lv_iload_n F.1 F.2.1 dX8_isByte_0 rfl (lv_at hl 0 rfl) ?_
  refine lv_if_lt (tgt := 15) F.1 F.2.1 dX8_isByte_1 (by decide) (fun c1 => ?_) (fun c1 => ?_)
  · have hs := it_t c1 hs
    refine lv_iconst (v := 0) F.1 F.2.1 dX8_isByte_15 rfl ?_
    cases hs
    exact x_iret F rfl rfl hP hS dX8_isByte_16
  have hs := it_f c1 hs
  refine lv_iload_n F.1 F.2.1 dX8_isByte_4 rfl (lv_at hl 0 rfl) ?_
  refine lv_sipush (v := 255) F.1 F.2.1 dX8_isByte_5 rfl ?_
  refine lv_icmp_gt (tgt := 15) F.1 F.2.1 dX8_isByte_8 (by decide) (fun c2 => ?_) (fun c2 => ?_)
  · have hs := it_t c2 hs
    refine lv_iconst (v := 0) F.1 F.2.1 dX8_isByte_15 rfl ?_
    cases hs
    exact x_iret F rfl rfl hP hS dX8_isByte_16
  have hs := it_f c2 hs
  refine lv_iconst (v := 1) F.1 F.2.1 dX8_isByte_11 rfl ?_
  refine lv_goto (tgt := 16) F.1 F.2.1 dX8_isByte_12 (by decide) ?_
  cases hs
  exact x_iret F rfl rfl hP hS dX8_isByte_16

def pX8_codes_b32 : Nat → St → Int32 → Int64 → Int32 → Int32 → Option (Int32 × St)
  | 0, _, _, _, _, _ => none
  | n + 1, M, x1, x2, x4, x5 =>
    if x4 ≤ x5 then
      some (1, M)
    else
      gd (inb (x1 + x5) 512) <|
      lt (up2 M 4 (ix (x1 + x5)) ((((x2.toUInt64 >>> ((8 * ((x4 - 1) - x5)).toInt64.toUInt64 &&& Int64.toUInt64 63)).toInt64).toInt32) &&& 255)) fun M1 =>
      pX8_codes_b32 n M1 x1 x2 x4 (x5 + 1)
def pX8_codes (M : St) (x1 : Int32) (x2 : Int64) (x4 : Int32) : Option (Int32 × St) :=
  if x4 < 1 then
    some ((-1), M)
  else
    if 8 < x4 then
      some ((-1), M)
    else
      if x1 < 0 then
        some ((-1), M)
      else
        if x1 ≤ 512 - x4 then
          pX8_codes_b32 LF M x1 x2 x4 0
        else
          some ((-1), M)
set_option maxHeartbeats 4000000 in
set_option maxRecDepth 100000 in
theorem tX8_codes_b32 (n : Nat) {G : zG} {A : Nat → Prop} {q : Nat → Nat} (hq : zQD A 58 q) {M' : St} {r : Int32} : ∀ {M : St} {x1 : Int32} {x2 : Int64} {x4 : Int32} {x5 : Int32} (hs : pX8_codes_b32 n M x1 x2 x4 x5 = some (r, M')) {p : Program} {l : Launch} {e : Env} {s : State} {m : MethodId} {args : Array Value} {below : List Frame} {meth : Method} {c : Code} {H : Heap} {locs : List Loc} {ls : Array Slot} (F : zFx p s m args meth c cX8_codes RX8 6 (some .int) G A) (hP : (zP G.1 58 q (eC G q) M) H) (hS : va_S A s.heap H locs) (hl : lv_has ls 6 [(0, .ref (q 0)), (1, .int x1), (2, .long x2), (4, .int x4), (5, .int x5)]), W p l e { frames := 0, cells := 0, slots := 0, locals := 0 } s m args below meth c H locs 0 0 (MQ below (va_Qi (fun (r' : Int32) (_ : Unit) => r' = r) (fun _ U => (zP G.1 58 q (eC G q) M') U.heap) A) args s 0 0 A) (F0 m 32 ls []) := by
  induction n with
  | zero =>
    intro M x1 x2 x4 x5 hs p l e s m args below meth c H locs ls F hP hS hl
    rw [pX8_codes_b32] at hs
    cases hs
  | succ n ih =>
    intro M x1 x2 x4 x5 hs p l e s m args below meth c H locs ls F hP hS hl
    rw [pX8_codes_b32] at hs
    refine lv_iload F.1 F.2.1 dX8_codes_32 (lv_at hl 4 rfl) ?_
    refine lv_iload F.1 F.2.1 dX8_codes_34 (lv_at hl 3 rfl) ?_
    refine lv_icmp_ge (tgt := 74) F.1 F.2.1 dX8_codes_36 (by decide) (fun c1 => ?_) (fun c1 => ?_)
    · have hs := it_t c1 hs
      refine lv_iconst (v := 1) F.1 F.2.1 dX8_codes_74 rfl ?_
      cases hs
      exact x_iret F rfl rfl hP hS dX8_codes_75
    have hs := it_f c1 hs
    refine lv_aload_n F.1 F.2.1 dX8_codes_39 rfl (lv_at hl 0 rfl) ?_
    refine gC_X8_10 F hP dX8_codes_40 ?_
    refine gC_X8_24 F hP dX8_codes_43 ?_
    refine lv_iload_n F.1 F.2.1 dX8_codes_46 rfl (lv_at hl 1 rfl) ?_
    refine lv_iload F.1 F.2.1 dX8_codes_47 (lv_at hl 4 rfl) ?_
    refine lv_iadd F.1 F.2.1 dX8_codes_49 ?_
    refine lv_lload_n F.1 F.2.1 dX8_codes_50 rfl (lv_at hl 2 rfl) ?_
    refine lv_bipush (v := 8) F.1 F.2.1 dX8_codes_51 rfl ?_
    refine lv_iload F.1 F.2.1 dX8_codes_53 (lv_at hl 3 rfl) ?_
    refine lv_iconst (v := 1) F.1 F.2.1 dX8_codes_55 rfl ?_
    refine lv_isub F.1 F.2.1 dX8_codes_56 ?_
    refine lv_iload F.1 F.2.1 dX8_codes_57 (lv_at hl 4 rfl) ?_
    refine lv_isub F.1 F.2.1 dX8_codes_59 ?_
    refine lv_imul F.1 F.2.1 dX8_codes_60 ?_
    refine lv_lushr F.1 F.2.1 dX8_codes_61 rfl ?_
    refine lv_l2i F.1 F.2.1 dX8_codes_62 rfl ?_
    refine lv_sipush (v := 255) F.1 F.2.1 dX8_codes_63 rfl ?_
    refine lv_iand F.1 F.2.1 dX8_codes_66 ?_
    obtain ⟨g1, hs⟩ := gd_some hs
    obtain ⟨M1, eM1, hs⟩ := lt_some hs
    refine x_iast F hq hP hS (arC_4 G q) g1 eM1 dX8_codes_67 (fun H locs hP hS => ?_)
    refine lv_iinc (v := x5 + 1) (lv' := [(5, .int (x5 + 1)), (0, .ref (q 0)), (1, .int x1), (2, .long x2), (4, .int x4)]) F.1 F.2.1 dX8_codes_68 hl (k := 4) rfl rfl (by decide) rfl (fun ls hl => ?_)
    refine lv_goto (tgt := 32) F.1 F.2.1 dX8_codes_71 (by decide) ?_
    exact ih hs F hP hS (lv_sub hl [1, 2, 3, 4, 0] rfl)
set_option maxHeartbeats 4000000 in
set_option maxRecDepth 100000 in
theorem tX8_codes (l : Launch) (G : zG) (A : Nat → Prop) (q : Nat → Nat) (hq : zQD A 58 q) {M M' : St} {r : Int32} {x1 : Int32} {x2 : Int64} {x4 : Int32} (hs : pX8_codes M x1 x2 x4 = some (r, M')) : zKI l yX8_codes cX8_codes 6 (some .int) 0 0 G A (zP G.1 58 q (eC G q) M) [.ref (q 0), .int x1, .long x2, .int x4] r (zP G.1 58 q (eC G q) M') := by
  refine zKI_of (by decide) (Nat.le_of_ble_eq_true rfl) (fun p e s m args below meth c H ls F hH hP hl => ?_)
  have F : zFx p s m args meth c cX8_codes RX8 6 (some .int) G A := F
  have hS : va_S A s.heap H [] := hH ▸ va_S.rf
  have hl : lv_has ls 6 [(0, .ref (q 0)), (1, .int x1), (2, .long x2), (4, .int x4)] := hl
  rw [pX8_codes] at hs
  refine lv_iload F.1 F.2.1 dX8_codes_0 (lv_at hl 3 rfl) ?_
  refine lv_iconst (v := 1) F.1 F.2.1 dX8_codes_2 rfl ?_
  refine lv_icmp_lt (tgt := 27) F.1 F.2.1 dX8_codes_3 (by decide) (fun c1 => ?_) (fun c1 => ?_)
  · have hs := it_t c1 hs
    refine lv_iconst (v := (-1)) F.1 F.2.1 dX8_codes_27 rfl ?_
    cases hs
    exact x_iret F rfl rfl hP hS dX8_codes_28
  have hs := it_f c1 hs
  refine lv_iload F.1 F.2.1 dX8_codes_6 (lv_at hl 3 rfl) ?_
  refine lv_bipush (v := 8) F.1 F.2.1 dX8_codes_8 rfl ?_
  refine lv_icmp_gt (tgt := 27) F.1 F.2.1 dX8_codes_10 (by decide) (fun c2 => ?_) (fun c2 => ?_)
  · have hs := it_t c2 hs
    refine lv_iconst (v := (-1)) F.1 F.2.1 dX8_codes_27 rfl ?_
    cases hs
    exact x_iret F rfl rfl hP hS dX8_codes_28
  have hs := it_f c2 hs
  refine lv_iload_n F.1 F.2.1 dX8_codes_13 rfl (lv_at hl 1 rfl) ?_
  refine lv_if_lt (tgt := 27) F.1 F.2.1 dX8_codes_14 (by decide) (fun c3 => ?_) (fun c3 => ?_)
  · have hs := it_t c3 hs
    refine lv_iconst (v := (-1)) F.1 F.2.1 dX8_codes_27 rfl ?_
    cases hs
    exact x_iret F rfl rfl hP hS dX8_codes_28
  have hs := it_f c3 hs
  refine lv_iload_n F.1 F.2.1 dX8_codes_17 rfl (lv_at hl 1 rfl) ?_
  refine lv_sipush (v := 512) F.1 F.2.1 dX8_codes_18 rfl ?_
  refine lv_iload F.1 F.2.1 dX8_codes_21 (lv_at hl 3 rfl) ?_
  refine lv_isub F.1 F.2.1 dX8_codes_23 ?_
  refine lv_icmp_le (tgt := 29) F.1 F.2.1 dX8_codes_24 (by decide) (fun c4 => ?_) (fun c4 => ?_)
  · have hs := it_t c4 hs
    refine lv_iconst (v := 0) F.1 F.2.1 dX8_codes_29 rfl ?_
    refine lv_istore (lv' := [(5, .int 0), (0, .ref (q 0)), (1, .int x1), (2, .long x2), (4, .int x4)]) F.1 F.2.1 dX8_codes_30 hl (by decide) rfl (fun ls hl => ?_)
    exact tX8_codes_b32 LF hq hs F hP hS (lv_sub hl [1, 2, 3, 4, 0] rfl)
  have hs := it_f c4 hs
  refine lv_iconst (v := (-1)) F.1 F.2.1 dX8_codes_27 rfl ?_
  cases hs
  exact x_iret F rfl rfl hP hS dX8_codes_28

def pX8_code (M : St) (x1 : Int32) (x2 : Int32) : Option (Int32 × St) :=
  bn (pX8_isByte x2) fun r1 =>
  if r1 = 0 then
    some ((-1), M)
  else
    bn2 (pX8_codes M x1 (x2.toInt64) 1) fun r2 M1 =>
    some (r2, M1)
set_option maxHeartbeats 4000000 in
set_option maxRecDepth 100000 in
theorem tX8_code (l : Launch) (G : zG) (A : Nat → Prop) (q : Nat → Nat) (hq : zQD A 58 q) {M M' : St} {r : Int32} {x1 : Int32} {x2 : Int32} (hs : pX8_code M x1 x2 = some (r, M')) : zKI l yX8_code cX8_code 3 (some .int) 1 25 G A (zP G.1 58 q (eC G q) M) [.ref (q 0), .int x1, .int x2] r (zP G.1 58 q (eC G q) M') := by
  refine zKI_of (by decide) (Nat.le_of_ble_eq_true rfl) (fun p e s m args below meth c H ls F hH hP hl => ?_)
  have F : zFx p s m args meth c cX8_code RX8 3 (some .int) G A := F
  have hS : va_S A s.heap H [] := hH ▸ va_S.rf
  have hl : lv_has ls 3 [(0, .ref (q 0)), (1, .int x1), (2, .int x2)] := hl
  rw [pX8_code] at hs
  refine lv_iload_n F.1 F.2.1 dX8_code_0 rfl (lv_at hl 2 rfl) ?_
  obtain ⟨r1, h1, hs⟩ := bn_some hs
  refine x_callSI (rest := []) wv_X8_16 F hS (fun _ h => h) hS.2.1 (tX8_isByte l G A (zP G.1 58 q (eC G q) M) h1) hP rfl hl.1 rfl ⟨Nat.le_of_ble_eq_true rfl, Nat.le_of_ble_eq_true rfl⟩ ⟨Nat.le_refl _, Nat.le_refl _⟩ (Nat.le_of_ble_eq_true rfl) dX8_code_1 (fun H locs hP hS _ _ => ?_)
  refine lv_if_ne (tgt := 9) F.1 F.2.1 dX8_code_4 (by decide) (fun c1 => ?_) (fun c1 => ?_)
  · have hs := it_f c1 hs
    refine lv_aload_n F.1 F.2.1 dX8_code_9 rfl (lv_at hl 0 rfl) ?_
    refine lv_iload_n F.1 F.2.1 dX8_code_10 rfl (lv_at hl 1 rfl) ?_
    refine lv_iload_n F.1 F.2.1 dX8_code_11 rfl (lv_at hl 2 rfl) ?_
    refine lv_i2l F.1 F.2.1 dX8_code_12 rfl ?_
    refine lv_iconst (v := 1) F.1 F.2.1 dX8_code_13 rfl ?_
    obtain ⟨r2, M1, h2, hs⟩ := bn2_some hs
    refine x_callI (rest := []) wv_X8_20 F hS (fun _ h => h) hS.2.1 (tX8_codes l G A q hq h2) hP (x_recv (ci := 6) F hP rfl (by decide) (eC_0 G q _)) rfl hl.1 rfl ⟨Nat.le_of_ble_eq_true rfl, Nat.le_of_ble_eq_true rfl⟩ ⟨Nat.le_refl _, Nat.le_refl _⟩ (Nat.le_of_ble_eq_true rfl) dX8_code_14 (fun H locs hP hS _ _ => ?_)
    cases hs
    exact x_iret F rfl rfl hP hS dX8_code_17
  have hs := it_t c1 hs
  refine lv_iconst (v := (-1)) F.1 F.2.1 dX8_code_7 rfl ?_
  cases hs
  exact x_iret F rfl rfl hP hS dX8_code_8

def pX8_isMethod (x0 : Int32) : Option Int32 :=
  if x0 < 0 then
    some 0
  else
    if 16 ≤ x0 then
      some 0
    else
      some 1
set_option maxHeartbeats 4000000 in
set_option maxRecDepth 100000 in
theorem tX8_isMethod (l : Launch) (G : zG) (A : Nat → Prop) (P0 : Heap → Prop) {r : Int32} {x0 : Int32} (hs : pX8_isMethod x0 = some r) : zKI l yX8_isMethod cX8_isMethod 1 (some .boolean) 0 0 G A P0 [.int x0] r P0 := by
  refine zKI_of (by decide) (Nat.le_of_ble_eq_true rfl) (fun p e s m args below meth c H ls F hH hP hl => ?_)
  have F : zFx p s m args meth c cX8_isMethod RX8 1 (some .boolean) G A := F
  have hS : va_S A s.heap H [] := hH ▸ va_S.rf
  have hl : lv_has ls 1 [(0, .int x0)] := hl
  rw [pX8_isMethod] at hs
  refine lv_iload_n F.1 F.2.1 dX8_isMethod_0 rfl (lv_at hl 0 rfl) ?_
  refine lv_if_lt (tgt := 14) F.1 F.2.1 dX8_isMethod_1 (by decide) (fun c1 => ?_) (fun c1 => ?_)
  · have hs := it_t c1 hs
    refine lv_iconst (v := 0) F.1 F.2.1 dX8_isMethod_14 rfl ?_
    cases hs
    exact x_iret F rfl rfl hP hS dX8_isMethod_15
  have hs := it_f c1 hs
  refine lv_iload_n F.1 F.2.1 dX8_isMethod_4 rfl (lv_at hl 0 rfl) ?_
  refine lv_bipush (v := 16) F.1 F.2.1 dX8_isMethod_5 rfl ?_
  refine lv_icmp_ge (tgt := 14) F.1 F.2.1 dX8_isMethod_7 (by decide) (fun c2 => ?_) (fun c2 => ?_)
  · have hs := it_t c2 hs
    refine lv_iconst (v := 0) F.1 F.2.1 dX8_isMethod_14 rfl ?_
    cases hs
    exact x_iret F rfl rfl hP hS dX8_isMethod_15
  have hs := it_f c2 hs
  refine lv_iconst (v := 1) F.1 F.2.1 dX8_isMethod_10 rfl ?_
  refine lv_goto (tgt := 15) F.1 F.2.1 dX8_isMethod_11 (by decide) ?_
  cases hs
  exact x_iret F rfl rfl hP hS dX8_isMethod_15

def pX8_method (M : St) (x1 : Int32) (x2 : Int32) (x3 : Int32) (x4 : Int32) : Option (Int32 × St) :=
  bn (pX8_isMethod x1) fun r1 =>
  if r1 = 0 then
    some ((-1), M)
  else
    if x2 < 0 then
      some ((-1), M)
    else
      if 4 ≤ x2 then
        some ((-1), M)
      else
        if x3 < 0 then
          some ((-1), M)
        else
          if x3 < 512 then
            ic x1 16 fun k1 =>
            lt (up2 M (6 + k1) 0 x2) fun M1 =>
            lt (up2 M1 (6 + k1) 1 x3) fun M2 =>
            gd (isb x4) <|
            lt (up2 M2 (6 + k1) 2 x4) fun M3 =>
            some (1, M3)
          else
            some ((-1), M)
set_option maxHeartbeats 4000000 in
set_option maxRecDepth 100000 in
theorem tX8_method (l : Launch) (G : zG) (A : Nat → Prop) (q : Nat → Nat) (hq : zQD A 58 q) {M M' : St} {r : Int32} {x1 : Int32} {x2 : Int32} {x3 : Int32} {x4 : Int32} (hs : pX8_method M x1 x2 x3 x4 = some (r, M')) : zKI l yX8_method cX8_method 6 (some .int) 1 20 G A (zP G.1 58 q (eC G q) M) [.ref (q 0), .int x1, .int x2, .int x3, .int x4] r (zP G.1 58 q (eC G q) M') := by
  refine zKI_of (by decide) (Nat.le_of_ble_eq_true rfl) (fun p e s m args below meth c H ls F hH hP hl => ?_)
  have F : zFx p s m args meth c cX8_method RX8 6 (some .int) G A := F
  have hS : va_S A s.heap H [] := hH ▸ va_S.rf
  have hl : lv_has ls 6 [(0, .ref (q 0)), (1, .int x1), (2, .int x2), (3, .int x3), (4, .int x4)] := hl
  rw [pX8_method] at hs
  refine lv_iload_n F.1 F.2.1 dX8_method_0 rfl (lv_at hl 1 rfl) ?_
  obtain ⟨r1, h1, hs⟩ := bn_some hs
  refine x_callSI (rest := []) wv_X8_28 F hS (fun _ h => h) hS.2.1 (tX8_isMethod l G A (zP G.1 58 q (eC G q) M) h1) hP rfl hl.1 rfl ⟨Nat.le_of_ble_eq_true rfl, Nat.le_of_ble_eq_true rfl⟩ ⟨Nat.le_refl _, Nat.le_refl _⟩ (Nat.le_of_ble_eq_true rfl) dX8_method_1 (fun H locs hP hS _ _ => ?_)
  refine lv_if_eq (tgt := 27) F.1 F.2.1 dX8_method_4 (by decide) (fun c1 => ?_) (fun c1 => ?_)
  · have hs := it_t c1 hs
    refine lv_iconst (v := (-1)) F.1 F.2.1 dX8_method_27 rfl ?_
    cases hs
    exact x_iret F rfl rfl hP hS dX8_method_28
  have hs := it_f c1 hs
  refine lv_iload_n F.1 F.2.1 dX8_method_7 rfl (lv_at hl 2 rfl) ?_
  refine lv_if_lt (tgt := 27) F.1 F.2.1 dX8_method_8 (by decide) (fun c2 => ?_) (fun c2 => ?_)
  · have hs := it_t c2 hs
    refine lv_iconst (v := (-1)) F.1 F.2.1 dX8_method_27 rfl ?_
    cases hs
    exact x_iret F rfl rfl hP hS dX8_method_28
  have hs := it_f c2 hs
  refine lv_iload_n F.1 F.2.1 dX8_method_11 rfl (lv_at hl 2 rfl) ?_
  refine lv_iconst (v := 4) F.1 F.2.1 dX8_method_12 rfl ?_
  refine lv_icmp_ge (tgt := 27) F.1 F.2.1 dX8_method_13 (by decide) (fun c3 => ?_) (fun c3 => ?_)
  · have hs := it_t c3 hs
    refine lv_iconst (v := (-1)) F.1 F.2.1 dX8_method_27 rfl ?_
    cases hs
    exact x_iret F rfl rfl hP hS dX8_method_28
  have hs := it_f c3 hs
  refine lv_iload_n F.1 F.2.1 dX8_method_16 rfl (lv_at hl 3 rfl) ?_
  refine lv_if_lt (tgt := 27) F.1 F.2.1 dX8_method_17 (by decide) (fun c4 => ?_) (fun c4 => ?_)
  · have hs := it_t c4 hs
    refine lv_iconst (v := (-1)) F.1 F.2.1 dX8_method_27 rfl ?_
    cases hs
    exact x_iret F rfl rfl hP hS dX8_method_28
  have hs := it_f c4 hs
  refine lv_iload_n F.1 F.2.1 dX8_method_20 rfl (lv_at hl 3 rfl) ?_
  refine lv_sipush (v := 512) F.1 F.2.1 dX8_method_21 rfl ?_
  refine lv_icmp_lt (tgt := 29) F.1 F.2.1 dX8_method_24 (by decide) (fun c5 => ?_) (fun c5 => ?_)
  · have hs := it_t c5 hs
    refine lv_aload_n F.1 F.2.1 dX8_method_29 rfl (lv_at hl 0 rfl) ?_
    refine gC_X8_10 F hP dX8_method_30 ?_
    refine gC_X8_31 F hP dX8_method_33 ?_
    refine lv_iload_n F.1 F.2.1 dX8_method_36 rfl (lv_at hl 1 rfl) ?_
    obtain ⟨k1, hik1, hxk1, hk1, hs⟩ := ic_some hs
    refine x_aaldM hxk1 F hP (aqC_M G q) hik1 dX8_method_37 ?_
    refine lv_astore (lv' := [(5, .ref (q (6 + k1))), (0, .ref (q 0)), (1, .int x1), (2, .int x2), (3, .int x3), (4, .int x4)]) F.1 F.2.1 dX8_method_38 hl (by decide) rfl (fun ls hl => ?_)
    refine lv_aload F.1 F.2.1 dX8_method_40 (lv_at hl 0 rfl) ?_
    refine lv_iload_n F.1 F.2.1 dX8_method_42 rfl (lv_at hl 3 rfl) ?_
    obtain ⟨M1, eM1, hs⟩ := lt_some hs
    refine hC_X8_35 hk1 F hq hP hS eM1 dX8_method_43 (fun H locs hP hS => ?_)
    refine lv_aload F.1 F.2.1 dX8_method_46 (lv_at hl 0 rfl) ?_
    refine lv_iload_n F.1 F.2.1 dX8_method_48 rfl (lv_at hl 4 rfl) ?_
    obtain ⟨M2, eM2, hs⟩ := lt_some hs
    refine hC_X8_41 hk1 F hq hP hS eM2 dX8_method_49 (fun H locs hP hS => ?_)
    refine lv_aload F.1 F.2.1 dX8_method_52 (lv_at hl 0 rfl) ?_
    refine lv_iload F.1 F.2.1 dX8_method_54 (lv_at hl 5 rfl) ?_
    obtain ⟨g1, hs⟩ := gd_some hs
    obtain ⟨M3, eM3, hs⟩ := lt_some hs
    refine hC_X8_44 hk1 g1 F hq hP hS eM3 dX8_method_56 (fun H locs hP hS => ?_)
    refine lv_iconst (v := 1) F.1 F.2.1 dX8_method_59 rfl ?_
    cases hs
    exact x_iret F rfl rfl hP hS dX8_method_60
  have hs := it_f c5 hs
  refine lv_iconst (v := (-1)) F.1 F.2.1 dX8_method_27 rfl ?_
  cases hs
  exact x_iret F rfl rfl hP hS dX8_method_28

def pX8_type (M : St) (x1 : Int32) : Option (Int32 × St) :=
  bn (pX8_isByte x1) fun r1 =>
  if r1 = 0 then
    some ((-1), M)
  else
    bn (pX1_isFull M 22) fun r2 =>
    if r2 = 0 then
      bn (pX1_add M 22 x1) fun M1 =>
      some (M1 22 1, M1)
    else
      some ((-3), M)
set_option maxHeartbeats 4000000 in
set_option maxRecDepth 100000 in
theorem tX8_type (l : Launch) (G : zG) (A : Nat → Prop) (q : Nat → Nat) (hq : zQD A 58 q) {M M' : St} {r : Int32} {x1 : Int32} (hs : pX8_type M x1 = some (r, M')) : zKI l yX8_type cX8_type 2 (some .int) 1 21 G A (zP G.1 58 q (eC G q) M) [.ref (q 0), .int x1] r (zP G.1 58 q (eC G q) M') := by
  refine zKI_of (by decide) (Nat.le_of_ble_eq_true rfl) (fun p e s m args below meth c H ls F hH hP hl => ?_)
  have F : zFx p s m args meth c cX8_type RX8 2 (some .int) G A := F
  have hS : va_S A s.heap H [] := hH ▸ va_S.rf
  have hl : lv_has ls 2 [(0, .ref (q 0)), (1, .int x1)] := hl
  rw [pX8_type] at hs
  refine lv_iload_n F.1 F.2.1 dX8_type_0 rfl (lv_at hl 1 rfl) ?_
  obtain ⟨r1, h1, hs⟩ := bn_some hs
  refine x_callSI (rest := []) wv_X8_16 F hS (fun _ h => h) hS.2.1 (tX8_isByte l G A (zP G.1 58 q (eC G q) M) h1) hP rfl hl.1 rfl ⟨Nat.le_of_ble_eq_true rfl, Nat.le_of_ble_eq_true rfl⟩ ⟨Nat.le_refl _, Nat.le_refl _⟩ (Nat.le_of_ble_eq_true rfl) dX8_type_1 (fun H locs hP hS _ _ => ?_)
  refine lv_if_ne (tgt := 9) F.1 F.2.1 dX8_type_4 (by decide) (fun c1 => ?_) (fun c1 => ?_)
  · have hs := it_f c1 hs
    refine lv_aload_n F.1 F.2.1 dX8_type_9 rfl (lv_at hl 0 rfl) ?_
    refine gC_X8_10 F hP dX8_type_10 ?_
    refine gC_X8_48 F hP dX8_type_13 ?_
    obtain ⟨r2, h2, hs⟩ := bn_some hs
    refine x_callI (rest := []) wv_X8_52 F hS (fun _ h => h) hS.2.1 (tX1_isFull l G A q hq (by decide : 22 = 22 ∨ 22 = 24) h2) hP (x_recv (ci := 0) F hP rfl (by have := (by decide : 22 = 22 ∨ 22 = 24); omega) (eC_B G q (by decide : 22 = 22 ∨ 22 = 24) _)) rfl hl.1 rfl ⟨Nat.le_of_ble_eq_true rfl, Nat.le_of_ble_eq_true rfl⟩ ⟨Nat.le_refl _, Nat.le_refl _⟩ (Nat.le_of_ble_eq_true rfl) dX8_type_16 (fun H locs hP hS _ _ => ?_)
    refine lv_if_eq (tgt := 25) F.1 F.2.1 dX8_type_19 (by decide) (fun c2 => ?_) (fun c2 => ?_)
    · have hs := it_t c2 hs
      refine lv_aload_n F.1 F.2.1 dX8_type_25 rfl (lv_at hl 0 rfl) ?_
      refine gC_X8_10 F hP dX8_type_26 ?_
      refine gC_X8_48 F hP dX8_type_29 ?_
      refine lv_iload_n F.1 F.2.1 dX8_type_32 rfl (lv_at hl 1 rfl) ?_
      obtain ⟨M1, h3, hs⟩ := bn_some hs
      refine x_callV (rest := []) wv_X8_58 F hS (fun _ h => h) hS.2.1 (tX1_add l G A q hq (by decide : 22 = 22 ∨ 22 = 24) h3) hP (x_recv (ci := 0) F hP rfl (by have := (by decide : 22 = 22 ∨ 22 = 24); omega) (eC_B G q (by decide : 22 = 22 ∨ 22 = 24) _)) rfl hl.1 rfl ⟨Nat.le_of_ble_eq_true rfl, Nat.le_of_ble_eq_true rfl⟩ ⟨Nat.le_refl _, Nat.le_refl _⟩ (Nat.le_of_ble_eq_true rfl) dX8_type_33 (fun H locs hP hS _ _ => ?_)
      refine lv_aload_n F.1 F.2.1 dX8_type_36 rfl (lv_at hl 0 rfl) ?_
      refine gC_X8_10 F hP dX8_type_37 ?_
      refine gC_X8_48 F hP dX8_type_40 ?_
      refine gC_X8_62 (by decide : 22 = 22 ∨ 22 = 24) F hP dX8_type_43 ?_
      cases hs
      exact x_iret F rfl rfl hP hS dX8_type_46
    have hs := it_f c2 hs
    refine lv_bipush (v := (-3)) F.1 F.2.1 dX8_type_22 rfl ?_
    cases hs
    exact x_iret F rfl rfl hP hS dX8_type_24
  have hs := it_t c1 hs
  refine lv_iconst (v := (-1)) F.1 F.2.1 dX8_type_7 rfl ?_
  cases hs
  exact x_iret F rfl rfl hP hS dX8_type_8

def pX8_run (M : St) (x1 : Int32) (x2 : Int32) : Option (Int32 × St) :=
  bn (pX8_isMethod x1) fun r1 =>
  if r1 = 0 then
    some ((-1), M)
  else
    if x2 < 1 then
      some ((-1), M)
    else
      if x2 ≤ 3000 then
        ic x1 16 fun k1 =>
        bn2 (pX6_perform M k1 x2) fun r2 M1 =>
        some (r2, M1)
      else
        some ((-1), M)
set_option maxHeartbeats 4000000 in
set_option maxRecDepth 100000 in
theorem tX8_run (l : Launch) (G : zG) (A : Nat → Prop) (q : Nat → Nat) (hq : zQD A 58 q) {M M' : St} {r : Int32} {x1 : Int32} {x2 : Int32} (hs : pX8_run M x1 x2 = some (r, M')) : zKI l yX8_run cX8_run 3 (some .int) 8 182 G A (zP G.1 58 q (eC G q) M) [.ref (q 0), .int x1, .int x2] r (zP G.1 58 q (eC G q) M') := by
  refine zKI_of (by decide) (Nat.le_of_ble_eq_true rfl) (fun p e s m args below meth c H ls F hH hP hl => ?_)
  have F : zFx p s m args meth c cX8_run RX8 3 (some .int) G A := F
  have hS : va_S A s.heap H [] := hH ▸ va_S.rf
  have hl : lv_has ls 3 [(0, .ref (q 0)), (1, .int x1), (2, .int x2)] := hl
  rw [pX8_run] at hs
  refine lv_iload_n F.1 F.2.1 dX8_run_0 rfl (lv_at hl 1 rfl) ?_
  obtain ⟨r1, h1, hs⟩ := bn_some hs
  refine x_callSI (rest := []) wv_X8_28 F hS (fun _ h => h) hS.2.1 (tX8_isMethod l G A (zP G.1 58 q (eC G q) M) h1) hP rfl hl.1 rfl ⟨Nat.le_of_ble_eq_true rfl, Nat.le_of_ble_eq_true rfl⟩ ⟨Nat.le_refl _, Nat.le_refl _⟩ (Nat.le_of_ble_eq_true rfl) dX8_run_1 (fun H locs hP hS _ _ => ?_)
  refine lv_if_eq (tgt := 19) F.1 F.2.1 dX8_run_4 (by decide) (fun c1 => ?_) (fun c1 => ?_)
  · have hs := it_t c1 hs
    refine lv_iconst (v := (-1)) F.1 F.2.1 dX8_run_19 rfl ?_
    cases hs
    exact x_iret F rfl rfl hP hS dX8_run_20
  have hs := it_f c1 hs
  refine lv_iload_n F.1 F.2.1 dX8_run_7 rfl (lv_at hl 2 rfl) ?_
  refine lv_iconst (v := 1) F.1 F.2.1 dX8_run_8 rfl ?_
  refine lv_icmp_lt (tgt := 19) F.1 F.2.1 dX8_run_9 (by decide) (fun c2 => ?_) (fun c2 => ?_)
  · have hs := it_t c2 hs
    refine lv_iconst (v := (-1)) F.1 F.2.1 dX8_run_19 rfl ?_
    cases hs
    exact x_iret F rfl rfl hP hS dX8_run_20
  have hs := it_f c2 hs
  refine lv_iload_n F.1 F.2.1 dX8_run_12 rfl (lv_at hl 2 rfl) ?_
  refine lv_sipush (v := 3000) F.1 F.2.1 dX8_run_13 rfl ?_
  refine lv_icmp_le (tgt := 21) F.1 F.2.1 dX8_run_16 (by decide) (fun c3 => ?_) (fun c3 => ?_)
  · have hs := it_t c3 hs
    refine lv_aload_n F.1 F.2.1 dX8_run_21 rfl (lv_at hl 0 rfl) ?_
    refine gC_X8_10 F hP dX8_run_22 ?_
    refine lv_aload_n F.1 F.2.1 dX8_run_25 rfl (lv_at hl 0 rfl) ?_
    refine gC_X8_10 F hP dX8_run_26 ?_
    refine gC_X8_31 F hP dX8_run_29 ?_
    refine lv_iload_n F.1 F.2.1 dX8_run_32 rfl (lv_at hl 1 rfl) ?_
    obtain ⟨k1, hik1, hxk1, hk1, hs⟩ := ic_some hs
    refine x_aaldM hxk1 F hP (aqC_M G q) hik1 dX8_run_33 ?_
    refine lv_iload_n F.1 F.2.1 dX8_run_34 rfl (lv_at hl 2 rfl) ?_
    obtain ⟨r2, M1, h2, hs⟩ := bn2_some hs
    refine x_callI (rest := []) wv_X8_65 F hS (fun _ h => h) hS.2.1 (tX6_perform l G A q hq hk1 h2) hP (x_recv (ci := 4) F hP rfl (by decide) (eC_1 G q _)) rfl hl.1 rfl ⟨Nat.le_of_ble_eq_true rfl, Nat.le_of_ble_eq_true rfl⟩ ⟨Nat.le_refl _, Nat.le_refl _⟩ (Nat.le_of_ble_eq_true rfl) dX8_run_35 (fun H locs hP hS _ _ => ?_)
    cases hs
    exact x_iret F rfl rfl hP hS dX8_run_38
  have hs := it_f c3 hs
  refine lv_iconst (v := (-1)) F.1 F.2.1 dX8_run_19 rfl ?_
  cases hs
  exact x_iret F rfl rfl hP hS dX8_run_20

def pX8_thrown0 (M : St) : Option Int32 :=
  some (M 1 5)
set_option maxHeartbeats 4000000 in
set_option maxRecDepth 100000 in
theorem tX8_thrown0 (l : Launch) (G : zG) (A : Nat → Prop) (q : Nat → Nat) (hq : zQD A 58 q) {M : St} {r : Int32} (hs : pX8_thrown0 M = some r) : zKI l yX8_thrown0 cX8_thrown0 1 (some .int) 0 0 G A (zP G.1 58 q (eC G q) M) [.ref (q 0)] r (zP G.1 58 q (eC G q) M) := by
  refine zKI_of (by decide) (Nat.le_of_ble_eq_true rfl) (fun p e s m args below meth c H ls F hH hP hl => ?_)
  have F : zFx p s m args meth c cX8_thrown0 RX8 1 (some .int) G A := F
  have hS : va_S A s.heap H [] := hH ▸ va_S.rf
  have hl : lv_has ls 1 [(0, .ref (q 0))] := hl
  rw [pX8_thrown0] at hs
  refine lv_aload_n F.1 F.2.1 dX8_thrown0_0 rfl (lv_at hl 0 rfl) ?_
  refine gC_X8_10 F hP dX8_thrown0_1 ?_
  refine gC_X8_69 F hP dX8_thrown0_4 ?_
  cases hs
  exact x_iret F rfl rfl hP hS dX8_thrown0_7

def pX8_value (M : St) : Option Int32 :=
  some (M 1 6)
set_option maxHeartbeats 4000000 in
set_option maxRecDepth 100000 in
theorem tX8_value (l : Launch) (G : zG) (A : Nat → Prop) (q : Nat → Nat) (hq : zQD A 58 q) {M : St} {r : Int32} (hs : pX8_value M = some r) : zKI l yX8_value cX8_value 1 (some .int) 0 0 G A (zP G.1 58 q (eC G q) M) [.ref (q 0)] r (zP G.1 58 q (eC G q) M) := by
  refine zKI_of (by decide) (Nat.le_of_ble_eq_true rfl) (fun p e s m args below meth c H ls F hH hP hl => ?_)
  have F : zFx p s m args meth c cX8_value RX8 1 (some .int) G A := F
  have hS : va_S A s.heap H [] := hH ▸ va_S.rf
  have hl : lv_has ls 1 [(0, .ref (q 0))] := hl
  rw [pX8_value] at hs
  refine lv_aload_n F.1 F.2.1 dX8_value_0 rfl (lv_at hl 0 rfl) ?_
  refine gC_X8_10 F hP dX8_value_1 ?_
  refine gC_X8_72 F hP dX8_value_4 ?_
  cases hs
  exact x_iret F rfl rfl hP hS dX8_value_7

def pX8_reply (M : St) (x1 : Int32) : Option Int32 :=
  bn (pX1_has M 24 x1) fun r1 =>
  if r1 = 0 then
    some ((-1))
  else
    gd (inb x1 32) <|
    some (M (24 + 1) (ix x1))
set_option maxHeartbeats 4000000 in
set_option maxRecDepth 100000 in
theorem tX8_reply (l : Launch) (G : zG) (A : Nat → Prop) (q : Nat → Nat) (hq : zQD A 58 q) {M : St} {r : Int32} {x1 : Int32} (hs : pX8_reply M x1 = some r) : zKI l yX8_reply cX8_reply 2 (some .int) 1 21 G A (zP G.1 58 q (eC G q) M) [.ref (q 0), .int x1] r (zP G.1 58 q (eC G q) M) := by
  refine zKI_of (by decide) (Nat.le_of_ble_eq_true rfl) (fun p e s m args below meth c H ls F hH hP hl => ?_)
  have F : zFx p s m args meth c cX8_reply RX8 2 (some .int) G A := F
  have hS : va_S A s.heap H [] := hH ▸ va_S.rf
  have hl : lv_has ls 2 [(0, .ref (q 0)), (1, .int x1)] := hl
  rw [pX8_reply] at hs
  refine lv_aload_n F.1 F.2.1 dX8_reply_0 rfl (lv_at hl 0 rfl) ?_
  refine gC_X8_10 F hP dX8_reply_1 ?_
  refine gC_X8_75 F hP dX8_reply_4 ?_
  refine lv_iload_n F.1 F.2.1 dX8_reply_7 rfl (lv_at hl 1 rfl) ?_
  obtain ⟨r1, h1, hs⟩ := bn_some hs
  refine x_callI (rest := []) wv_X8_78 F hS (fun _ h => h) hS.2.1 (tX1_has l G A q hq (by decide : 24 = 22 ∨ 24 = 24) h1) hP (x_recv (ci := 0) F hP rfl (by have := (by decide : 24 = 22 ∨ 24 = 24); omega) (eC_B G q (by decide : 24 = 22 ∨ 24 = 24) _)) rfl hl.1 rfl ⟨Nat.le_of_ble_eq_true rfl, Nat.le_of_ble_eq_true rfl⟩ ⟨Nat.le_refl _, Nat.le_refl _⟩ (Nat.le_of_ble_eq_true rfl) dX8_reply_8 (fun H locs hP hS _ _ => ?_)
  refine lv_if_eq (tgt := 29) F.1 F.2.1 dX8_reply_11 (by decide) (fun c1 => ?_) (fun c1 => ?_)
  · have hs := it_t c1 hs
    refine lv_iconst (v := (-1)) F.1 F.2.1 dX8_reply_29 rfl ?_
    cases hs
    exact x_iret F rfl rfl hP hS dX8_reply_30
  have hs := it_f c1 hs
  refine lv_aload_n F.1 F.2.1 dX8_reply_14 rfl (lv_at hl 0 rfl) ?_
  refine gC_X8_10 F hP dX8_reply_15 ?_
  refine gC_X8_75 F hP dX8_reply_18 ?_
  refine gC_X8_81 (by decide : 24 = 22 ∨ 24 = 24) F hP dX8_reply_21 ?_
  refine lv_iload_n F.1 F.2.1 dX8_reply_24 rfl (lv_at hl 1 rfl) ?_
  obtain ⟨g1, hs⟩ := gd_some hs
  refine x_iald F hP (arC_B G q (by decide : 24 = 22 ∨ 24 = 24)) g1 dX8_reply_25 ?_
  refine lv_goto (tgt := 30) F.1 F.2.1 dX8_reply_26 (by decide) ?_
  cases hs
  exact x_iret F rfl rfl hP hS dX8_reply_30

def pX8_used (M : St) : Option Int32 :=
  some (M 1 7)
set_option maxHeartbeats 4000000 in
set_option maxRecDepth 100000 in
theorem tX8_used (l : Launch) (G : zG) (A : Nat → Prop) (q : Nat → Nat) (hq : zQD A 58 q) {M : St} {r : Int32} (hs : pX8_used M = some r) : zKI l yX8_used cX8_used 1 (some .int) 0 0 G A (zP G.1 58 q (eC G q) M) [.ref (q 0)] r (zP G.1 58 q (eC G q) M) := by
  refine zKI_of (by decide) (Nat.le_of_ble_eq_true rfl) (fun p e s m args below meth c H ls F hH hP hl => ?_)
  have F : zFx p s m args meth c cX8_used RX8 1 (some .int) G A := F
  have hS : va_S A s.heap H [] := hH ▸ va_S.rf
  have hl : lv_has ls 1 [(0, .ref (q 0))] := hl
  rw [pX8_used] at hs
  refine lv_aload_n F.1 F.2.1 dX8_used_0 rfl (lv_at hl 0 rfl) ?_
  refine gC_X8_10 F hP dX8_used_1 ?_
  refine gC_X8_84 F hP dX8_used_4 ?_
  cases hs
  exact x_iret F rfl rfl hP hS dX8_used_7

def pX8_tear (M : St) (x1 : Int32) : Option (Int32 × St) :=
  bn (pX5_setTear M x1) fun M1 =>
  some (1, M1)
set_option maxHeartbeats 4000000 in
set_option maxRecDepth 100000 in
theorem tX8_tear (l : Launch) (G : zG) (A : Nat → Prop) (q : Nat → Nat) (hq : zQD A 58 q) {M M' : St} {r : Int32} {x1 : Int32} (hs : pX8_tear M x1 = some (r, M')) : zKI l yX8_tear cX8_tear 2 (some .int) 1 21 G A (zP G.1 58 q (eC G q) M) [.ref (q 0), .int x1] r (zP G.1 58 q (eC G q) M') := by
  refine zKI_of (by decide) (Nat.le_of_ble_eq_true rfl) (fun p e s m args below meth c H ls F hH hP hl => ?_)
  have F : zFx p s m args meth c cX8_tear RX8 2 (some .int) G A := F
  have hS : va_S A s.heap H [] := hH ▸ va_S.rf
  have hl : lv_has ls 2 [(0, .ref (q 0)), (1, .int x1)] := hl
  rw [pX8_tear] at hs
  refine lv_aload_n F.1 F.2.1 dX8_tear_0 rfl (lv_at hl 0 rfl) ?_
  refine gC_X8_10 F hP dX8_tear_1 ?_
  refine gC_X8_87 F hP dX8_tear_4 ?_
  refine gC_X8_91 F hP dX8_tear_7 ?_
  refine lv_iload_n F.1 F.2.1 dX8_tear_10 rfl (lv_at hl 1 rfl) ?_
  obtain ⟨M1, h1, hs⟩ := bn_some hs
  refine x_callV (rest := []) wv_X8_97 F hS (fun _ h => h) hS.2.1 (tX5_setTear l G A q hq h1) hP (x_recv (ci := 3) F hP rfl (by decide) (eC_3 G q _)) rfl hl.1 rfl ⟨Nat.le_of_ble_eq_true rfl, Nat.le_of_ble_eq_true rfl⟩ ⟨Nat.le_refl _, Nat.le_refl _⟩ (Nat.le_of_ble_eq_true rfl) dX8_tear_11 (fun H locs hP hS _ _ => ?_)
  refine lv_iconst (v := 1) F.1 F.2.1 dX8_tear_14 rfl ?_
  cases hs
  exact x_iret F rfl rfl hP hS dX8_tear_15

def pX8_reset (M : St) : Option (Int32 × St) :=
  if M 3 0 = 0 then
    lt (up2 M 3 0 1) fun M1 =>
    bn2 (pX7_undo M1) fun r1 M2 =>
    if r1 = 0 then
      some (0, M2)
    else
      some (1, M2)
  else
    some (0, M)
set_option maxHeartbeats 4000000 in
set_option maxRecDepth 100000 in
theorem tX8_reset (l : Launch) (G : zG) (A : Nat → Prop) (q : Nat → Nat) (hq : zQD A 58 q) {M M' : St} {r : Int32} (hs : pX8_reset M = some (r, M')) : zKI l yX8_reset cX8_reset 2 (some .int) 1 21 G A (zP G.1 58 q (eC G q) M) [.ref (q 0)] r (zP G.1 58 q (eC G q) M') := by
  refine zKI_of (by decide) (Nat.le_of_ble_eq_true rfl) (fun p e s m args below meth c H ls F hH hP hl => ?_)
  have F : zFx p s m args meth c cX8_reset RX8 2 (some .int) G A := F
  have hS : va_S A s.heap H [] := hH ▸ va_S.rf
  have hl : lv_has ls 2 [(0, .ref (q 0))] := hl
  rw [pX8_reset] at hs
  refine lv_aload_n F.1 F.2.1 dX8_reset_0 rfl (lv_at hl 0 rfl) ?_
  refine gC_X8_10 F hP dX8_reset_1 ?_
  refine gC_X8_87 F hP dX8_reset_4 ?_
  refine lv_astore_n (lv' := [(1, .ref (q 2)), (0, .ref (q 0))]) F.1 F.2.1 dX8_reset_7 rfl hl (by decide) rfl (fun ls hl => ?_)
  refine lv_aload_n F.1 F.2.1 dX8_reset_8 rfl (lv_at hl 0 rfl) ?_
  refine gC_X8_91 F hP dX8_reset_9 ?_
  refine gC_X8_102 F hP dX8_reset_12 ?_
  refine lv_if_eq (tgt := 20) F.1 F.2.1 dX8_reset_15 (by decide) (fun c1 => ?_) (fun c1 => ?_)
  · have hs := it_t c1 hs
    refine lv_aload_n F.1 F.2.1 dX8_reset_20 rfl (lv_at hl 0 rfl) ?_
    refine gC_X8_91 F hP dX8_reset_21 ?_
    refine lv_iconst (v := 1) F.1 F.2.1 dX8_reset_24 rfl ?_
    obtain ⟨M1, eM1, hs⟩ := lt_some hs
    refine hC_X8_102 rfl F hq hP hS eM1 dX8_reset_25 (fun H locs hP hS => ?_)
    refine lv_aload_n F.1 F.2.1 dX8_reset_28 rfl (lv_at hl 0 rfl) ?_
    obtain ⟨r1, M2, h1, hs⟩ := bn2_some hs
    refine x_callI (rest := []) wv_X8_105 F hS (fun _ h => h) hS.2.1 (tX7_undo l G A q hq h1) hP (x_recv (ci := 5) F hP rfl (by decide) (eC_2 G q _)) rfl hl.1 rfl ⟨Nat.le_of_ble_eq_true rfl, Nat.le_of_ble_eq_true rfl⟩ ⟨Nat.le_refl _, Nat.le_refl _⟩ (Nat.le_of_ble_eq_true rfl) dX8_reset_29 (fun H locs hP hS _ _ => ?_)
    refine lv_if_eq (tgt := 39) F.1 F.2.1 dX8_reset_32 (by decide) (fun c2 => ?_) (fun c2 => ?_)
    · have hs := it_t c2 hs
      refine lv_iconst (v := 0) F.1 F.2.1 dX8_reset_39 rfl ?_
      cases hs
      exact x_iret F rfl rfl hP hS dX8_reset_40
    have hs := it_f c2 hs
    refine lv_iconst (v := 1) F.1 F.2.1 dX8_reset_35 rfl ?_
    refine lv_goto (tgt := 40) F.1 F.2.1 dX8_reset_36 (by decide) ?_
    cases hs
    exact x_iret F rfl rfl hP hS dX8_reset_40
  have hs := it_f c1 hs
  refine lv_iconst (v := 0) F.1 F.2.1 dX8_reset_18 rfl ?_
  cases hs
  exact x_iret F rfl rfl hP hS dX8_reset_19

def pX8_objects (M : St) : Option Int32 :=
  if M 3 0 = 0 then
    some ((-1))
  else
    some (M 2 4)
set_option maxHeartbeats 4000000 in
set_option maxRecDepth 100000 in
theorem tX8_objects (l : Launch) (G : zG) (A : Nat → Prop) (q : Nat → Nat) (hq : zQD A 58 q) {M : St} {r : Int32} (hs : pX8_objects M = some r) : zKI l yX8_objects cX8_objects 2 (some .int) 0 0 G A (zP G.1 58 q (eC G q) M) [.ref (q 0)] r (zP G.1 58 q (eC G q) M) := by
  refine zKI_of (by decide) (Nat.le_of_ble_eq_true rfl) (fun p e s m args below meth c H ls F hH hP hl => ?_)
  have F : zFx p s m args meth c cX8_objects RX8 2 (some .int) G A := F
  have hS : va_S A s.heap H [] := hH ▸ va_S.rf
  have hl : lv_has ls 2 [(0, .ref (q 0))] := hl
  rw [pX8_objects] at hs
  refine lv_aload_n F.1 F.2.1 dX8_objects_0 rfl (lv_at hl 0 rfl) ?_
  refine gC_X8_10 F hP dX8_objects_1 ?_
  refine gC_X8_87 F hP dX8_objects_4 ?_
  refine lv_astore_n (lv' := [(1, .ref (q 2)), (0, .ref (q 0))]) F.1 F.2.1 dX8_objects_7 rfl hl (by decide) rfl (fun ls hl => ?_)
  refine lv_aload_n F.1 F.2.1 dX8_objects_8 rfl (lv_at hl 0 rfl) ?_
  refine gC_X8_91 F hP dX8_objects_9 ?_
  refine gC_X8_102 F hP dX8_objects_12 ?_
  refine lv_if_eq (tgt := 25) F.1 F.2.1 dX8_objects_15 (by decide) (fun c1 => ?_) (fun c1 => ?_)
  · have hs := it_t c1 hs
    refine lv_iconst (v := (-1)) F.1 F.2.1 dX8_objects_25 rfl ?_
    cases hs
    exact x_iret F rfl rfl hP hS dX8_objects_26
  have hs := it_f c1 hs
  refine lv_aload_n F.1 F.2.1 dX8_objects_18 rfl (lv_at hl 0 rfl) ?_
  refine gC_X8_108 F hP dX8_objects_19 ?_
  refine lv_goto (tgt := 26) F.1 F.2.1 dX8_objects_22 (by decide) ?_
  cases hs
  exact x_iret F rfl rfl hP hS dX8_objects_26

def pX8_told (M : St) (x1 : Int32) (x2 : Int32) : Option Int32 :=
  if M 3 0 = 0 then
    some ((-1))
  else
    bn (pX7_has M x1) fun r1 =>
    if r1 = 0 then
      some ((-1))
    else
      if (x2).toInt < 0 ∨ 2 < (x2).toInt then
        some ((-1))
      else
      if (x2) = 0 then
        gd (inb x1 41) <|
        some (M 51 (ix x1))
      else
      if (x2) = 1 then
        gd (inb x1 41) <|
        some (M 52 (ix x1))
      else
      if (x2) = 2 then
        gd (inb x1 41) <|
        some (M 53 (ix x1))
      else
        none
set_option maxHeartbeats 4000000 in
set_option maxRecDepth 100000 in
theorem tX8_told (l : Launch) (G : zG) (A : Nat → Prop) (q : Nat → Nat) (hq : zQD A 58 q) {M : St} {r : Int32} {x1 : Int32} {x2 : Int32} (hs : pX8_told M x1 x2 = some r) : zKI l yX8_told cX8_told 4 (some .int) 1 21 G A (zP G.1 58 q (eC G q) M) [.ref (q 0), .int x1, .int x2] r (zP G.1 58 q (eC G q) M) := by
  refine zKI_of (by decide) (Nat.le_of_ble_eq_true rfl) (fun p e s m args below meth c H ls F hH hP hl => ?_)
  have F : zFx p s m args meth c cX8_told RX8 4 (some .int) G A := F
  have hS : va_S A s.heap H [] := hH ▸ va_S.rf
  have hl : lv_has ls 4 [(0, .ref (q 0)), (1, .int x1), (2, .int x2)] := hl
  rw [pX8_told] at hs
  refine lv_aload_n F.1 F.2.1 dX8_told_0 rfl (lv_at hl 0 rfl) ?_
  refine gC_X8_10 F hP dX8_told_1 ?_
  refine gC_X8_87 F hP dX8_told_4 ?_
  refine lv_astore_n (lv' := [(3, .ref (q 2)), (0, .ref (q 0)), (1, .int x1), (2, .int x2)]) F.1 F.2.1 dX8_told_7 rfl hl (by decide) rfl (fun ls hl => ?_)
  refine lv_aload_n F.1 F.2.1 dX8_told_8 rfl (lv_at hl 0 rfl) ?_
  refine gC_X8_91 F hP dX8_told_9 ?_
  refine gC_X8_102 F hP dX8_told_12 ?_
  refine lv_if_eq (tgt := 26) F.1 F.2.1 dX8_told_15 (by decide) (fun c1 => ?_) (fun c1 => ?_)
  · have hs := it_t c1 hs
    refine lv_iconst (v := (-1)) F.1 F.2.1 dX8_told_26 rfl ?_
    cases hs
    exact x_iret F rfl rfl hP hS dX8_told_27
  have hs := it_f c1 hs
  refine lv_aload_n F.1 F.2.1 dX8_told_18 rfl (lv_at hl 0 rfl) ?_
  refine lv_iload_n F.1 F.2.1 dX8_told_19 rfl (lv_at hl 2 rfl) ?_
  obtain ⟨r1, h1, hs⟩ := bn_some hs
  refine x_callI (rest := []) wv_X8_111 F hS (fun _ h => h) hS.2.1 (tX7_has l G A q hq h1) hP (x_recv (ci := 5) F hP rfl (by decide) (eC_2 G q _)) rfl hl.1 rfl ⟨Nat.le_of_ble_eq_true rfl, Nat.le_of_ble_eq_true rfl⟩ ⟨Nat.le_refl _, Nat.le_refl _⟩ (Nat.le_of_ble_eq_true rfl) dX8_told_20 (fun H locs hP hS _ _ => ?_)
  refine lv_if_ne (tgt := 28) F.1 F.2.1 dX8_told_23 (by decide) (fun c2 => ?_) (fun c2 => ?_)
  · have hs := it_f c2 hs
    refine lv_iload_n F.1 F.2.1 dX8_told_28 rfl (lv_at hl 3 rfl) ?_
    by_cases c3 : (x2).toInt < 0 ∨ 2 < (x2).toInt
    · have hs := it_t c3 hs
      refine lv_tableOut (tgt := 77) F.1 F.2.1 dX8_told_29 c3 (by decide) ?_
      refine lv_iconst (v := (-1)) F.1 F.2.1 dX8_told_77 rfl ?_
      cases hs
      exact x_iret F rfl rfl hP hS dX8_told_78
    have hs := it_f c3 hs
    by_cases c4 : (x2) = 0
    · have hs := it_t c4 hs
      refine lv_tableIn (off := 27) (tgt := 56) F.1 F.2.1 dX8_told_29 (by rw [c4]; decide) (by rw [c4]; decide) (by rw [c4]; rfl) (by decide) ?_
      refine lv_aload_n F.1 F.2.1 dX8_told_56 rfl (lv_at hl 0 rfl) ?_
      refine gC_X8_112 F hP dX8_told_57 ?_
      refine lv_iload_n F.1 F.2.1 dX8_told_60 rfl (lv_at hl 2 rfl) ?_
      obtain ⟨g1, hs⟩ := gd_some hs
      refine x_iald F hP (arC_51 G q) g1 dX8_told_61 ?_
      cases hs
      exact x_iret F rfl rfl hP hS dX8_told_62
    have hs := it_f c4 hs
    by_cases c5 : (x2) = 1
    · have hs := it_t c5 hs
      refine lv_tableIn (off := 34) (tgt := 63) F.1 F.2.1 dX8_told_29 (by rw [c5]; decide) (by rw [c5]; decide) (by rw [c5]; rfl) (by decide) ?_
      refine lv_aload_n F.1 F.2.1 dX8_told_63 rfl (lv_at hl 0 rfl) ?_
      refine gC_X8_115 F hP dX8_told_64 ?_
      refine lv_iload_n F.1 F.2.1 dX8_told_67 rfl (lv_at hl 2 rfl) ?_
      obtain ⟨g2, hs⟩ := gd_some hs
      refine x_iald F hP (arC_52 G q) g2 dX8_told_68 ?_
      cases hs
      exact x_iret F rfl rfl hP hS dX8_told_69
    have hs := it_f c5 hs
    by_cases c6 : (x2) = 2
    · have hs := it_t c6 hs
      refine lv_tableIn (off := 41) (tgt := 70) F.1 F.2.1 dX8_told_29 (by rw [c6]; decide) (by rw [c6]; decide) (by rw [c6]; rfl) (by decide) ?_
      refine lv_aload_n F.1 F.2.1 dX8_told_70 rfl (lv_at hl 0 rfl) ?_
      refine gC_X8_118 F hP dX8_told_71 ?_
      refine lv_iload_n F.1 F.2.1 dX8_told_74 rfl (lv_at hl 2 rfl) ?_
      obtain ⟨g3, hs⟩ := gd_some hs
      refine x_iald F hP (arC_53 G q) g3 dX8_told_75 ?_
      cases hs
      exact x_iret F rfl rfl hP hS dX8_told_76
    have hs := it_f c6 hs
    cases hs
  have hs := it_t c2 hs
  refine lv_iconst (v := (-1)) F.1 F.2.1 dX8_told_26 rfl ?_
  cases hs
  exact x_iret F rfl rfl hP hS dX8_told_27

def pX8_cell (M : St) (x1 : Int32) (x2 : Int32) : Option Int32 :=
  if M 3 0 = 0 then
    some 0
  else
    bn (pX7_has M x1) fun r1 =>
    if r1 = 0 then
      some 0
    else
      bn (pX7_hasCells M x1 x2 1) fun r2 =>
      if r2 = 0 then
        some 0
      else
        bn (pX7_read M x1 x2) fun r3 =>
        some r3
set_option maxHeartbeats 4000000 in
set_option maxRecDepth 100000 in
theorem tX8_cell (l : Launch) (G : zG) (A : Nat → Prop) (q : Nat → Nat) (hq : zQD A 58 q) {M : St} {r : Int32} {x1 : Int32} {x2 : Int32} (hs : pX8_cell M x1 x2 = some r) : zKI l yX8_cell cX8_cell 4 (some .int) 1 23 G A (zP G.1 58 q (eC G q) M) [.ref (q 0), .int x1, .int x2] r (zP G.1 58 q (eC G q) M) := by
  refine zKI_of (by decide) (Nat.le_of_ble_eq_true rfl) (fun p e s m args below meth c H ls F hH hP hl => ?_)
  have F : zFx p s m args meth c cX8_cell RX8 4 (some .int) G A := F
  have hS : va_S A s.heap H [] := hH ▸ va_S.rf
  have hl : lv_has ls 4 [(0, .ref (q 0)), (1, .int x1), (2, .int x2)] := hl
  rw [pX8_cell] at hs
  refine lv_aload_n F.1 F.2.1 dX8_cell_0 rfl (lv_at hl 0 rfl) ?_
  refine gC_X8_10 F hP dX8_cell_1 ?_
  refine gC_X8_87 F hP dX8_cell_4 ?_
  refine lv_astore_n (lv' := [(3, .ref (q 2)), (0, .ref (q 0)), (1, .int x1), (2, .int x2)]) F.1 F.2.1 dX8_cell_7 rfl hl (by decide) rfl (fun ls hl => ?_)
  refine lv_aload_n F.1 F.2.1 dX8_cell_8 rfl (lv_at hl 0 rfl) ?_
  refine gC_X8_91 F hP dX8_cell_9 ?_
  refine gC_X8_102 F hP dX8_cell_12 ?_
  refine lv_if_eq (tgt := 36) F.1 F.2.1 dX8_cell_15 (by decide) (fun c1 => ?_) (fun c1 => ?_)
  · have hs := it_t c1 hs
    refine lv_iconst (v := 0) F.1 F.2.1 dX8_cell_36 rfl ?_
    cases hs
    exact x_iret F rfl rfl hP hS dX8_cell_37
  have hs := it_f c1 hs
  refine lv_aload_n F.1 F.2.1 dX8_cell_18 rfl (lv_at hl 0 rfl) ?_
  refine lv_iload_n F.1 F.2.1 dX8_cell_19 rfl (lv_at hl 2 rfl) ?_
  obtain ⟨r1, h1, hs⟩ := bn_some hs
  refine x_callI (rest := []) wv_X8_111 F hS (fun _ h => h) hS.2.1 (tX7_has l G A q hq h1) hP (x_recv (ci := 5) F hP rfl (by decide) (eC_2 G q _)) rfl hl.1 rfl ⟨Nat.le_of_ble_eq_true rfl, Nat.le_of_ble_eq_true rfl⟩ ⟨Nat.le_refl _, Nat.le_refl _⟩ (Nat.le_of_ble_eq_true rfl) dX8_cell_20 (fun H locs hP hS _ _ => ?_)
  refine lv_if_eq (tgt := 36) F.1 F.2.1 dX8_cell_23 (by decide) (fun c2 => ?_) (fun c2 => ?_)
  · have hs := it_t c2 hs
    refine lv_iconst (v := 0) F.1 F.2.1 dX8_cell_36 rfl ?_
    cases hs
    exact x_iret F rfl rfl hP hS dX8_cell_37
  have hs := it_f c2 hs
  refine lv_aload_n F.1 F.2.1 dX8_cell_26 rfl (lv_at hl 0 rfl) ?_
  refine lv_iload_n F.1 F.2.1 dX8_cell_27 rfl (lv_at hl 2 rfl) ?_
  refine lv_iload_n F.1 F.2.1 dX8_cell_28 rfl (lv_at hl 3 rfl) ?_
  refine lv_iconst (v := 1) F.1 F.2.1 dX8_cell_29 rfl ?_
  obtain ⟨r2, h2, hs⟩ := bn_some hs
  refine x_callI (rest := []) wv_X8_121 F hS (fun _ h => h) hS.2.1 (tX7_hasCells l G A q hq h2) hP (x_recv (ci := 5) F hP rfl (by decide) (eC_2 G q _)) rfl hl.1 rfl ⟨Nat.le_of_ble_eq_true rfl, Nat.le_of_ble_eq_true rfl⟩ ⟨Nat.le_refl _, Nat.le_refl _⟩ (Nat.le_of_ble_eq_true rfl) dX8_cell_30 (fun H locs hP hS _ _ => ?_)
  refine lv_if_ne (tgt := 38) F.1 F.2.1 dX8_cell_33 (by decide) (fun c3 => ?_) (fun c3 => ?_)
  · have hs := it_f c3 hs
    refine lv_aload_n F.1 F.2.1 dX8_cell_38 rfl (lv_at hl 0 rfl) ?_
    refine lv_iload_n F.1 F.2.1 dX8_cell_39 rfl (lv_at hl 2 rfl) ?_
    refine lv_iload_n F.1 F.2.1 dX8_cell_40 rfl (lv_at hl 3 rfl) ?_
    obtain ⟨r3, h3, hs⟩ := bn_some hs
    refine x_callI (rest := []) wv_X8_125 F hS (fun _ h => h) hS.2.1 (tX7_read l G A q hq h3) hP (x_recv (ci := 5) F hP rfl (by decide) (eC_2 G q _)) rfl hl.1 rfl ⟨Nat.le_of_ble_eq_true rfl, Nat.le_of_ble_eq_true rfl⟩ ⟨Nat.le_refl _, Nat.le_refl _⟩ (Nat.le_of_ble_eq_true rfl) dX8_cell_41 (fun H locs hP hS _ _ => ?_)
    cases hs
    exact x_iret F rfl rfl hP hS dX8_cell_44
  have hs := it_t c3 hs
  refine lv_iconst (v := 0) F.1 F.2.1 dX8_cell_36 rfl ?_
  cases hs
  exact x_iret F rfl rfl hP hS dX8_cell_37
