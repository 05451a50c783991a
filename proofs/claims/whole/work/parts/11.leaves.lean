def pX1_isFull (M : St) (k0 : Nat) : Option Int32 :=
  if M k0 1 = 32 then
    some 1
  else
    some 0
set_option maxHeartbeats 4000000 in
set_option maxRecDepth 100000 in
theorem tX1_isFull (l : Launch) (G : zG) (A : Nat → Prop) (q : Nat → Nat) (hq : zQD A 58 q) {M : St} {r : Int32} {k0 : Nat} (hk0 : k0 = 22 ∨ k0 = 24) (hs : pX1_isFull M k0 = some r) : zKI l yX1_isFull cX1_isFull 1 (some .boolean) 0 0 G A (zP G.1 58 q (eC G q) M) [.ref (q k0)] r (zP G.1 58 q (eC G q) M) := by
  refine zKI_of (by decide) (Nat.le_of_ble_eq_true rfl) (fun p e s m args below meth c H ls F hH hP hl => ?_)
  have F : zFx p s m args meth c cX1_isFull RX1 1 (some .boolean) G A := F
  have hS : va_S A s.heap H [] := hH ▸ va_S.rf
  have hl : lv_has ls 1 [(0, .ref (q k0))] := hl
  rw [pX1_isFull] at hs
  refine lv_aload_n F.1 F.2.1 dX1_isFull_0 rfl (lv_at hl 0 rfl) ?_
  refine gC_X1_15 hk0 F hP dX1_isFull_1 ?_
  refine lv_bipush (v := 32) F.1 F.2.1 dX1_isFull_4 rfl ?_
  refine lv_icmp_ne (tgt := 13) F.1 F.2.1 dX1_isFull_6 (by decide) (fun c1 => ?_) (fun c1 => ?_)
  · have hs := it_f c1 hs
    refine lv_iconst (v := 0) F.1 F.2.1 dX1_isFull_13 rfl ?_
    cases hs
    exact x_iret F rfl rfl hP hS dX1_isFull_14
  have hs := it_t c1 hs
  refine lv_iconst (v := 1) F.1 F.2.1 dX1_isFull_9 rfl ?_
  refine lv_goto (tgt := 14) F.1 F.2.1 dX1_isFull_10 (by decide) ?_
  cases hs
  exact x_iret F rfl rfl hP hS dX1_isFull_14

def pX1_has (M : St) (k0 : Nat) (x1 : Int32) : Option Int32 :=
  if x1 < 0 then
    some 0
  else
    if M k0 1 ≤ x1 then
      some 0
    else
      some 1
set_option maxHeartbeats 4000000 in
set_option maxRecDepth 100000 in
theorem tX1_has (l : Launch) (G : zG) (A : Nat → Prop) (q : Nat → Nat) (hq : zQD A 58 q) {M : St} {r : Int32} {k0 : Nat} {x1 : Int32} (hk0 : k0 = 22 ∨ k0 = 24) (hs : pX1_has M k0 x1 = some r) : zKI l yX1_has cX1_has 2 (some .boolean) 0 0 G A (zP G.1 58 q (eC G q) M) [.ref (q k0), .int x1] r (zP G.1 58 q (eC G q) M) := by
  refine zKI_of (by decide) (Nat.le_of_ble_eq_true rfl) (fun p e s m args below meth c H ls F hH hP hl => ?_)
  have F : zFx p s m args meth c cX1_has RX1 2 (some .boolean) G A := F
  have hS : va_S A s.heap H [] := hH ▸ va_S.rf
  have hl : lv_has ls 2 [(0, .ref (q k0)), (1, .int x1)] := hl
  rw [pX1_has] at hs
  refine lv_iload_n F.1 F.2.1 dX1_has_0 rfl (lv_at hl 1 rfl) ?_
  refine lv_if_lt (tgt := 16) F.1 F.2.1 dX1_has_1 (by decide) (fun c1 => ?_) (fun c1 => ?_)
  · have hs := it_t c1 hs
    refine lv_iconst (v := 0) F.1 F.2.1 dX1_has_16 rfl ?_
    cases hs
    exact x_iret F rfl rfl hP hS dX1_has_17
  have hs := it_f c1 hs
  refine lv_iload_n F.1 F.2.1 dX1_has_4 rfl (lv_at hl 1 rfl) ?_
  refine lv_aload_n F.1 F.2.1 dX1_has_5 rfl (lv_at hl 0 rfl) ?_
  refine gC_X1_15 hk0 F hP dX1_has_6 ?_
  refine lv_icmp_ge (tgt := 16) F.1 F.2.1 dX1_has_9 (by decide) (fun c2 => ?_) (fun c2 => ?_)
  · have hs := it_t c2 hs
    refine lv_iconst (v := 0) F.1 F.2.1 dX1_has_16 rfl ?_
    cases hs
    exact x_iret F rfl rfl hP hS dX1_has_17
  have hs := it_f c2 hs
  refine lv_iconst (v := 1) F.1 F.2.1 dX1_has_12 rfl ?_
  refine lv_goto (tgt := 17) F.1 F.2.1 dX1_has_13 (by decide) ?_
  cases hs
  exact x_iret F rfl rfl hP hS dX1_has_17

def pX1_add (M : St) (k0 : Nat) (x1 : Int32) : Option St :=
  gd (inb (M k0 1) 32) <|
  lt (up2 M (k0 + 1) (ix (M k0 1)) x1) fun M1 =>
  lt (up2 M1 k0 1 ((M1 k0 1) + 1)) fun M2 =>
  some M2
set_option maxHeartbeats 4000000 in
set_option maxRecDepth 100000 in
theorem tX1_add (l : Launch) (G : zG) (A : Nat → Prop) (q : Nat → Nat) (hq : zQD A 58 q) {M M' : St} {k0 : Nat} {x1 : Int32} (hk0 : k0 = 22 ∨ k0 = 24) (hs : pX1_add M k0 x1 = some M') : zKV l yX1_add cX1_add 2 0 0 G A (zP G.1 58 q (eC G q) M) [.ref (q k0), .int x1] (zP G.1 58 q (eC G q) M') := by
  refine zKV_of (by decide) (Nat.le_of_ble_eq_true rfl) (fun p e s m args below meth c H ls F hH hP hl => ?_)
  have F : zFx p s m args meth c cX1_add RX1 2 none G A := F
  have hS : va_S A s.heap H [] := hH ▸ va_S.rf
  have hl : lv_has ls 2 [(0, .ref (q k0)), (1, .int x1)] := hl
  rw [pX1_add] at hs
  refine lv_aload_n F.1 F.2.1 dX1_add_0 rfl (lv_at hl 0 rfl) ?_
  refine gC_X1_9 hk0 F hP dX1_add_1 ?_
  refine lv_aload_n F.1 F.2.1 dX1_add_4 rfl (lv_at hl 0 rfl) ?_
  refine gC_X1_15 hk0 F hP dX1_add_5 ?_
  refine lv_iload_n F.1 F.2.1 dX1_add_8 rfl (lv_at hl 1 rfl) ?_
  obtain ⟨g1, hs⟩ := gd_some hs
  obtain ⟨M1, eM1, hs⟩ := lt_some hs
  refine x_iast F hq hP hS (arC_B G q hk0) g1 eM1 dX1_add_9 (fun H locs hP hS => ?_)
  refine lv_aload_n F.1 F.2.1 dX1_add_10 rfl (lv_at hl 0 rfl) ?_
  refine lv_dup F.1 F.2.1 dX1_add_11 rfl ?_
  refine gC_X1_15 hk0 F hP dX1_add_12 ?_
  refine lv_iconst (v := 1) F.1 F.2.1 dX1_add_15 rfl ?_
  refine lv_iadd F.1 F.2.1 dX1_add_16 ?_
  obtain ⟨M2, eM2, hs⟩ := lt_some hs
  refine hC_X1_15 hk0 F hq hP hS eM2 dX1_add_17 (fun H locs hP hS => ?_)
  cases hs
  exact x_vret F hP hS dX1_add_20

def pJ7_fill_53178_b5 (a0 n0 : Nat) : Nat → St → Int32 → Int32 → Int32 → Option St
  | 0, _, _, _, _ => none
  | n + 1, M, x1, x2, x3 =>
    if x3 ≤ x2 then
      some M
    else
      gd (inb x2 n0) <|
      lt (up2 M a0 (ix x2) x1) fun M1 =>
      pJ7_fill_53178_b5 a0 n0 n M1 x1 (x2 + 1) x3
def pJ7_fill_53178 (M : St) (a0 n0 : Nat) (x1 : Int32) : Option St :=
  pJ7_fill_53178_b5 a0 n0 LF M x1 0 (nI n0)
set_option maxHeartbeats 4000000 in
set_option maxRecDepth 100000 in
theorem tJ7_fill_53178_b5 (n : Nat) {G : zG} {A : Nat → Prop} {N : Nat} {ent : zEnt} {a0 n0 : Nat} {q : Nat → Nat} (har : zAR ent G.2.1.1 N a0 n0) (hq : zQD A N q) {M' : St} : ∀ {M : St} {x1 : Int32} {x2 : Int32} {x3 : Int32} (hs : pJ7_fill_53178_b5 a0 n0 n M x1 x2 x3 = some M') {p : Program} {l : Launch} {e : Env} {s : State} {m : MethodId} {args : Array Value} {below : List Frame} {meth : Method} {c : Code} {H : Heap} {locs : List Loc} {ls : Array Slot} (F : zFx p s m args meth c cJ7_fill_53178 RJ7 4 none G A) (hP : (zP G.1 N q (ent) M) H) (hS : va_S A s.heap H locs) (hl : lv_has ls 4 [(0, .ref (q a0)), (1, .int x1), (2, .int x2), (3, .int x3)]), W p l e { frames := 0, cells := 0, slots := 0, locals := 0 } s m args below meth c H locs 0 0 (MQ below (va_Qv (fun (_ : Unit) => True) (fun _ U => (zP G.1 N q (ent) M') U.heap) A) args s 0 0 A) (F0 m 5 ls []) := by
  induction n with
  | zero =>
    intro M x1 x2 x3 hs p l e s m args below meth c H locs ls F hP hS hl
    rw [pJ7_fill_53178_b5] at hs
    cases hs
  | succ n ih =>
    intro M x1 x2 x3 hs p l e s m args below meth c H locs ls F hP hS hl
    rw [pJ7_fill_53178_b5] at hs
    refine lv_iload_n F.1 F.2.1 dJ7_fill_53178_5 rfl (lv_at hl 2 rfl) ?_
    refine lv_iload_n F.1 F.2.1 dJ7_fill_53178_6 rfl (lv_at hl 3 rfl) ?_
    refine lv_icmp_ge (tgt := 20) F.1 F.2.1 dJ7_fill_53178_7 (by decide) (fun c1 => ?_) (fun c1 => ?_)
    · have hs := it_t c1 hs
      cases hs
      exact x_vret F hP hS dJ7_fill_53178_20
    have hs := it_f c1 hs
    refine lv_aload_n F.1 F.2.1 dJ7_fill_53178_10 rfl (lv_at hl 0 rfl) ?_
    refine lv_iload_n F.1 F.2.1 dJ7_fill_53178_11 rfl (lv_at hl 2 rfl) ?_
    refine lv_iload_n F.1 F.2.1 dJ7_fill_53178_12 rfl (lv_at hl 1 rfl) ?_
    obtain ⟨g1, hs⟩ := gd_some hs
    obtain ⟨M1, eM1, hs⟩ := lt_some hs
    refine x_iast F hq hP hS har g1 eM1 dJ7_fill_53178_13 (fun H locs hP hS => ?_)
    refine lv_iinc (v := x2 + 1) (lv' := [(2, .int (x2 + 1)), (0, .ref (q a0)), (1, .int x1), (3, .int x3)]) F.1 F.2.1 dJ7_fill_53178_14 hl (k := 2) rfl rfl (by decide) rfl (fun ls hl => ?_)
    refine lv_goto (tgt := 5) F.1 F.2.1 dJ7_fill_53178_17 (by decide) ?_
    exact ih hs F hP hS (lv_sub hl [1, 2, 0, 3] rfl)
set_option maxHeartbeats 4000000 in
set_option maxRecDepth 100000 in
theorem tJ7_fill_53178 (l : Launch) (G : zG) (A : Nat → Prop) {N : Nat} {ent : zEnt} {a0 n0 : Nat} (q : Nat → Nat) (hq : zQD A N q) (har : zAR ent G.2.1.1 N a0 n0) {M M' : St} {x1 : Int32} (hs : pJ7_fill_53178 M a0 n0 x1 = some M') : zKV l yJ7_fill_53178 cJ7_fill_53178 4 0 0 G A (zP G.1 N q (ent) M) [.ref (q a0), .int x1] (zP G.1 N q (ent) M') := by
  refine zKV_of (by decide) (Nat.le_of_ble_eq_true rfl) (fun p e s m args below meth c H ls F hH hP hl => ?_)
  have F : zFx p s m args meth c cJ7_fill_53178 RJ7 4 none G A := F
  have hS : va_S A s.heap H [] := hH ▸ va_S.rf
  have hl : lv_has ls 4 [(0, .ref (q a0)), (1, .int x1)] := hl
  rw [pJ7_fill_53178] at hs
  refine lv_iconst (v := 0) F.1 F.2.1 dJ7_fill_53178_0 rfl ?_
  refine lv_istore_n (lv' := [(2, .int 0), (0, .ref (q a0)), (1, .int x1)]) F.1 F.2.1 dJ7_fill_53178_1 rfl hl (by decide) rfl (fun ls hl => ?_)
  refine lv_aload_n F.1 F.2.1 dJ7_fill_53178_2 rfl (lv_at hl 1 rfl) ?_
  refine x_alen (v := nI n0) F hP har rfl dJ7_fill_53178_3 ?_
  refine lv_istore_n (lv' := [(3, .int (nI n0)), (2, .int 0), (0, .ref (q a0)), (1, .int x1)]) F.1 F.2.1 dJ7_fill_53178_4 rfl hl (by decide) rfl (fun ls hl => ?_)
  exact tJ7_fill_53178_b5 LF har hq hs F hP hS (lv_sub hl [2, 3, 1, 0] rfl)

def pX2_begin (M : St) (k0 : Nat) (w1 : Nat) : Option St :=
  bn (pJ7_fill_53178 M (35 + k0) 8 0) fun M1 =>
  lt (up2 M1 (27 + k0) 2 0) fun M2 =>
  lt (up2 M2 (27 + k0) 3 (M2 (6 + w1) 0)) fun M3 =>
  lt (up2 M3 (27 + k0) 4 (M3 (6 + w1) 1)) fun M4 =>
  lt (up2 M4 (27 + k0) 5 ((-1024))) fun M5 =>
  some M5
set_option maxHeartbeats 4000000 in
set_option maxRecDepth 100000 in
theorem tX2_begin (l : Launch) (G : zG) (A : Nat → Prop) (q : Nat → Nat) (hq : zQD A 58 q) {M M' : St} {k0 : Nat} {w1 : Nat} (hk0 : k0 < 8) (hw1 : w1 < 16) (hs : pX2_begin M k0 w1 = some M') : zKV l yX2_begin cX2_begin 2 1 23 G A (zP G.1 58 q (eC G q) M) [.ref (q (27 + k0)), .ref (q (6 + w1))] (zP G.1 58 q (eC G q) M') := by
  refine zKV_of (by decide) (Nat.le_of_ble_eq_true rfl) (fun p e s m args below meth c H ls F hH hP hl => ?_)
  have F : zFx p s m args meth c cX2_begin RX2 2 none G A := F
  have hS : va_S A s.heap H [] := hH ▸ va_S.rf
  have hl : lv_has ls 2 [(0, .ref (q (27 + k0))), (1, .ref (q (6 + w1)))] := hl
  rw [pX2_begin] at hs
  refine lv_aload_n F.1 F.2.1 dX2_begin_0 rfl (lv_at hl 0 rfl) ?_
  refine gC_X2_9 hk0 F hP dX2_begin_1 ?_
  refine lv_iconst (v := 0) F.1 F.2.1 dX2_begin_4 rfl ?_
  obtain ⟨M1, h1, hs⟩ := bn_some hs
  refine x_callSV (rest := []) wv_X2_18 F hS (fun _ h => h) hS.2.1 (tJ7_fill_53178 l G A q hq (arC_l G q hk0) h1) hP rfl hl.1 rfl ⟨Nat.le_of_ble_eq_true rfl, Nat.le_of_ble_eq_true rfl⟩ ⟨Nat.le_refl _, Nat.le_refl _⟩ (Nat.le_of_ble_eq_true rfl) dX2_begin_5 (fun H locs hP hS _ _ => ?_)
  refine lv_aload_n F.1 F.2.1 dX2_begin_8 rfl (lv_at hl 0 rfl) ?_
  refine lv_iconst (v := 0) F.1 F.2.1 dX2_begin_9 rfl ?_
  obtain ⟨M2, eM2, hs⟩ := lt_some hs
  refine hC_X2_24 hk0 F hq hP hS eM2 dX2_begin_10 (fun H locs hP hS => ?_)
  refine lv_aload_n F.1 F.2.1 dX2_begin_13 rfl (lv_at hl 0 rfl) ?_
  refine lv_aload_n F.1 F.2.1 dX2_begin_14 rfl (lv_at hl 1 rfl) ?_
  refine gC_X2_28 hw1 F hP dX2_begin_15 ?_
  obtain ⟨M3, eM3, hs⟩ := lt_some hs
  refine hC_X2_33 hk0 F hq hP hS eM3 dX2_begin_18 (fun H locs hP hS => ?_)
  refine lv_aload_n F.1 F.2.1 dX2_begin_21 rfl (lv_at hl 0 rfl) ?_
  refine lv_aload_n F.1 F.2.1 dX2_begin_22 rfl (lv_at hl 1 rfl) ?_
  refine gC_X2_34 hw1 F hP dX2_begin_23 ?_
  obtain ⟨M4, eM4, hs⟩ := lt_some hs
  refine hC_X2_37 hk0 F hq hP hS eM4 dX2_begin_26 (fun H locs hP hS => ?_)
  refine lv_aload_n F.1 F.2.1 dX2_begin_29 rfl (lv_at hl 0 rfl) ?_
  refine lv_sipush (v := (-1024)) F.1 F.2.1 dX2_begin_30 rfl ?_
  obtain ⟨M5, eM5, hs⟩ := lt_some hs
  refine hC_X2_40 hk0 F hq hP hS eM5 dX2_begin_33 (fun H locs hP hS => ?_)
  cases hs
  exact x_vret F hP hS dX2_begin_36

def pX2_hasRoom (M : St) (k0 : Nat) (x1 : Int32) : Option Int32 :=
  if 16 < (M (27 + k0) 2) + x1 then
    some 0
  else
    some 1
set_option maxHeartbeats 4000000 in
set_option maxRecDepth 100000 in
theorem tX2_hasRoom (l : Launch) (G : zG) (A : Nat → Prop) (q : Nat → Nat) (hq : zQD A 58 q) {M : St} {r : Int32} {k0 : Nat} {x1 : Int32} (hk0 : k0 < 8) (hs : pX2_hasRoom M k0 x1 = some r) : zKI l yX2_hasRoom cX2_hasRoom 2 (some .boolean) 0 0 G A (zP G.1 58 q (eC G q) M) [.ref (q (27 + k0)), .int x1] r (zP G.1 58 q (eC G q) M) := by
  refine zKI_of (by decide) (Nat.le_of_ble_eq_true rfl) (fun p e s m args below meth c H ls F hH hP hl => ?_)
  have F : zFx p s m args meth c cX2_hasRoom RX2 2 (some .boolean) G A := F
  have hS : va_S A s.heap H [] := hH ▸ va_S.rf
  have hl : lv_has ls 2 [(0, .ref (q (27 + k0))), (1, .int x1)] := hl
  rw [pX2_hasRoom] at hs
  refine lv_aload_n F.1 F.2.1 dX2_hasRoom_0 rfl (lv_at hl 0 rfl) ?_
  refine gC_X2_24 hk0 F hP dX2_hasRoom_1 ?_
  refine lv_iload_n F.1 F.2.1 dX2_hasRoom_4 rfl (lv_at hl 1 rfl) ?_
  refine lv_iadd F.1 F.2.1 dX2_hasRoom_5 ?_
  refine lv_bipush (v := 16) F.1 F.2.1 dX2_hasRoom_6 rfl ?_
  refine lv_icmp_gt (tgt := 15) F.1 F.2.1 dX2_hasRoom_8 (by decide) (fun c1 => ?_) (fun c1 => ?_)
  · have hs := it_t c1 hs
    refine lv_iconst (v := 0) F.1 F.2.1 dX2_hasRoom_15 rfl ?_
    cases hs
    exact x_iret F rfl rfl hP hS dX2_hasRoom_16
  have hs := it_f c1 hs
  refine lv_iconst (v := 1) F.1 F.2.1 dX2_hasRoom_11 rfl ?_
  refine lv_goto (tgt := 16) F.1 F.2.1 dX2_hasRoom_12 (by decide) ?_
  cases hs
  exact x_iret F rfl rfl hP hS dX2_hasRoom_16

def pX2_push (M : St) (k0 : Nat) (x1 : Int32) : Option St :=
  gd (inb (M (27 + k0) 2) 16) <|
  lt (up2 M (43 + k0) (ix (M (27 + k0) 2)) (x1.toInt16.toInt32)) fun M1 =>
  lt (up2 M1 (27 + k0) 2 ((M1 (27 + k0) 2) + 1)) fun M2 =>
  some M2
set_option maxHeartbeats 4000000 in
set_option maxRecDepth 100000 in
theorem tX2_push (l : Launch) (G : zG) (A : Nat → Prop) (q : Nat → Nat) (hq : zQD A 58 q) {M M' : St} {k0 : Nat} {x1 : Int32} (hk0 : k0 < 8) (hs : pX2_push M k0 x1 = some M') : zKV l yX2_push cX2_push 2 0 0 G A (zP G.1 58 q (eC G q) M) [.ref (q (27 + k0)), .int x1] (zP G.1 58 q (eC G q) M') := by
  refine zKV_of (by decide) (Nat.le_of_ble_eq_true rfl) (fun p e s m args below meth c H ls F hH hP hl => ?_)
  have F : zFx p s m args meth c cX2_push RX2 2 none G A := F
  have hS : va_S A s.heap H [] := hH ▸ va_S.rf
  have hl : lv_has ls 2 [(0, .ref (q (27 + k0))), (1, .int x1)] := hl
  rw [pX2_push] at hs
  refine lv_aload_n F.1 F.2.1 dX2_push_0 rfl (lv_at hl 0 rfl) ?_
  refine gC_X2_15 hk0 F hP dX2_push_1 ?_
  refine lv_aload_n F.1 F.2.1 dX2_push_4 rfl (lv_at hl 0 rfl) ?_
  refine gC_X2_24 hk0 F hP dX2_push_5 ?_
  refine lv_iload_n F.1 F.2.1 dX2_push_8 rfl (lv_at hl 1 rfl) ?_
  refine lv_i2s F.1 F.2.1 dX2_push_9 rfl ?_
  obtain ⟨g1, hs⟩ := gd_some hs
  obtain ⟨M1, eM1, hs⟩ := lt_some hs
  refine x_iast F hq hP hS (arC_s G q hk0) g1 eM1 dX2_push_10 (fun H locs hP hS => ?_)
  refine lv_aload_n F.1 F.2.1 dX2_push_11 rfl (lv_at hl 0 rfl) ?_
  refine lv_dup F.1 F.2.1 dX2_push_12 rfl ?_
  refine gC_X2_24 hk0 F hP dX2_push_13 ?_
  refine lv_iconst (v := 1) F.1 F.2.1 dX2_push_16 rfl ?_
  refine lv_iadd F.1 F.2.1 dX2_push_17 ?_
  obtain ⟨M2, eM2, hs⟩ := lt_some hs
  refine hC_X2_24 hk0 F hq hP hS eM2 dX2_push_18 (fun H locs hP hS => ?_)
  cases hs
  exact x_vret F hP hS dX2_push_21

def pX2_pop (M : St) (k0 : Nat) : Option (Int32 × St) :=
  lt (up2 M (27 + k0) 2 ((M (27 + k0) 2) - 1)) fun M1 =>
  gd (inb (M1 (27 + k0) 2) 16) <|
  some (M1 (43 + k0) (ix (M1 (27 + k0) 2)), M1)
set_option maxHeartbeats 4000000 in
set_option maxRecDepth 100000 in
theorem tX2_pop (l : Launch) (G : zG) (A : Nat → Prop) (q : Nat → Nat) (hq : zQD A 58 q) {M M' : St} {r : Int32} {k0 : Nat} (hk0 : k0 < 8) (hs : pX2_pop M k0 = some (r, M')) : zKI l yX2_pop cX2_pop 1 (some .int) 0 0 G A (zP G.1 58 q (eC G q) M) [.ref (q (27 + k0))] r (zP G.1 58 q (eC G q) M') := by
  refine zKI_of (by decide) (Nat.le_of_ble_eq_true rfl) (fun p e s m args below meth c H ls F hH hP hl => ?_)
  have F : zFx p s m args meth c cX2_pop RX2 1 (some .int) G A := F
  have hS : va_S A s.heap H [] := hH ▸ va_S.rf
  have hl : lv_has ls 1 [(0, .ref (q (27 + k0)))] := hl
  rw [pX2_pop] at hs
  refine lv_aload_n F.1 F.2.1 dX2_pop_0 rfl (lv_at hl 0 rfl) ?_
  refine lv_dup F.1 F.2.1 dX2_pop_1 rfl ?_
  refine gC_X2_24 hk0 F hP dX2_pop_2 ?_
  refine lv_iconst (v := 1) F.1 F.2.1 dX2_pop_5 rfl ?_
  refine lv_isub F.1 F.2.1 dX2_pop_6 ?_
  obtain ⟨M1, eM1, hs⟩ := lt_some hs
  refine hC_X2_24 hk0 F hq hP hS eM1 dX2_pop_7 (fun H locs hP hS => ?_)
  refine lv_aload_n F.1 F.2.1 dX2_pop_10 rfl (lv_at hl 0 rfl) ?_
  refine gC_X2_15 hk0 F hP dX2_pop_11 ?_
  refine lv_aload_n F.1 F.2.1 dX2_pop_14 rfl (lv_at hl 0 rfl) ?_
  refine gC_X2_24 hk0 F hP dX2_pop_15 ?_
  obtain ⟨g1, hs⟩ := gd_some hs
  refine x_iald F hP (arC_s G q hk0) g1 dX2_pop_18 ?_
  cases hs
  exact x_iret F rfl rfl hP hS dX2_pop_19

def pX2_top (M : St) (k0 : Nat) : Option Int32 :=
  gd (inb ((M (27 + k0) 2) - 1) 16) <|
  some (M (43 + k0) (ix ((M (27 + k0) 2) - 1)))
set_option maxHeartbeats 4000000 in
set_option maxRecDepth 100000 in
theorem tX2_top (l : Launch) (G : zG) (A : Nat → Prop) (q : Nat → Nat) (hq : zQD A 58 q) {M : St} {r : Int32} {k0 : Nat} (hk0 : k0 < 8) (hs : pX2_top M k0 = some r) : zKI l yX2_top cX2_top 1 (some .int) 0 0 G A (zP G.1 58 q (eC G q) M) [.ref (q (27 + k0))] r (zP G.1 58 q (eC G q) M) := by
  refine zKI_of (by decide) (Nat.le_of_ble_eq_true rfl) (fun p e s m args below meth c H ls F hH hP hl => ?_)
  have F : zFx p s m args meth c cX2_top RX2 1 (some .int) G A := F
  have hS : va_S A s.heap H [] := hH ▸ va_S.rf
  have hl : lv_has ls 1 [(0, .ref (q (27 + k0)))] := hl
  rw [pX2_top] at hs
  refine lv_aload_n F.1 F.2.1 dX2_top_0 rfl (lv_at hl 0 rfl) ?_
  refine gC_X2_15 hk0 F hP dX2_top_1 ?_
  refine lv_aload_n F.1 F.2.1 dX2_top_4 rfl (lv_at hl 0 rfl) ?_
  refine gC_X2_24 hk0 F hP dX2_top_5 ?_
  refine lv_iconst (v := 1) F.1 F.2.1 dX2_top_8 rfl ?_
  refine lv_isub F.1 F.2.1 dX2_top_9 ?_
  obtain ⟨g1, hs⟩ := gd_some hs
  refine x_iald F hP (arC_s G q hk0) g1 dX2_top_10 ?_
  cases hs
  exact x_iret F rfl rfl hP hS dX2_top_11

def pX2_addToLocal (M : St) (k0 : Nat) (x1 : Int32) (x2 : Int32) : Option St :=
  gd (inb x1 8) <|
  gd (inb x1 8) <|
  lt (up2 M (35 + k0) (ix x1) (((M (35 + k0) (ix x1)) + x2).toInt16.toInt32)) fun M1 =>
  some M1
set_option maxHeartbeats 4000000 in
set_option maxRecDepth 100000 in
theorem tX2_addToLocal (l : Launch) (G : zG) (A : Nat → Prop) (q : Nat → Nat) (hq : zQD A 58 q) {M M' : St} {k0 : Nat} {x1 : Int32} {x2 : Int32} (hk0 : k0 < 8) (hs : pX2_addToLocal M k0 x1 x2 = some M') : zKV l yX2_addToLocal cX2_addToLocal 3 0 0 G A (zP G.1 58 q (eC G q) M) [.ref (q (27 + k0)), .int x1, .int x2] (zP G.1 58 q (eC G q) M') := by
  refine zKV_of (by decide) (Nat.le_of_ble_eq_true rfl) (fun p e s m args below meth c H ls F hH hP hl => ?_)
  have F : zFx p s m args meth c cX2_addToLocal RX2 3 none G A := F
  have hS : va_S A s.heap H [] := hH ▸ va_S.rf
  have hl : lv_has ls 3 [(0, .ref (q (27 + k0))), (1, .int x1), (2, .int x2)] := hl
  rw [pX2_addToLocal] at hs
  refine lv_aload_n F.1 F.2.1 dX2_addToLocal_0 rfl (lv_at hl 0 rfl) ?_
  refine gC_X2_9 hk0 F hP dX2_addToLocal_1 ?_
  refine lv_iload_n F.1 F.2.1 dX2_addToLocal_4 rfl (lv_at hl 1 rfl) ?_
  refine lv_aload_n F.1 F.2.1 dX2_addToLocal_5 rfl (lv_at hl 0 rfl) ?_
  refine gC_X2_9 hk0 F hP dX2_addToLocal_6 ?_
  refine lv_iload_n F.1 F.2.1 dX2_addToLocal_9 rfl (lv_at hl 1 rfl) ?_
  obtain ⟨g1, hs⟩ := gd_some hs
  refine x_iald F hP (arC_l G q hk0) g1 dX2_addToLocal_10 ?_
  refine lv_iload_n F.1 F.2.1 dX2_addToLocal_11 rfl (lv_at hl 2 rfl) ?_
  refine lv_iadd F.1 F.2.1 dX2_addToLocal_12 ?_
  refine lv_i2s F.1 F.2.1 dX2_addToLocal_13 rfl ?_
  obtain ⟨g2, hs⟩ := gd_some hs
  obtain ⟨M1, eM1, hs⟩ := lt_some hs
  refine x_iast F hq hP hS (arC_l G q hk0) g2 eM1 dX2_addToLocal_14 (fun H locs hP hS => ?_)
  cases hs
  exact x_vret F hP hS dX2_addToLocal_15

def pX2_handle (M : St) (k0 : Nat) (x1 : Int32) : Option St :=
  lt (up2 M (27 + k0) 2 0) fun M1 =>
  bn (pX2_push M1 k0 x1) fun M2 =>
  lt (up2 M2 (27 + k0) 4 (M2 (27 + k0) 5)) fun M3 =>
  lt (up2 M3 (27 + k0) 5 ((-1024))) fun M4 =>
  some M4
set_option maxHeartbeats 4000000 in
set_option maxRecDepth 100000 in
theorem tX2_handle (l : Launch) (G : zG) (A : Nat → Prop) (q : Nat → Nat) (hq : zQD A 58 q) {M M' : St} {k0 : Nat} {x1 : Int32} (hk0 : k0 < 8) (hs : pX2_handle M k0 x1 = some M') : zKV l yX2_handle cX2_handle 2 1 21 G A (zP G.1 58 q (eC G q) M) [.ref (q (27 + k0)), .int x1] (zP G.1 58 q (eC G q) M') := by
  refine zKV_of (by decide) (Nat.le_of_ble_eq_true rfl) (fun p e s m args below meth c H ls F hH hP hl => ?_)
  have F : zFx p s m args meth c cX2_handle RX2 2 none G A := F
  have hS : va_S A s.heap H [] := hH ▸ va_S.rf
  have hl : lv_has ls 2 [(0, .ref (q (27 + k0))), (1, .int x1)] := hl
  rw [pX2_handle] at hs
  refine lv_aload_n F.1 F.2.1 dX2_handle_0 rfl (lv_at hl 0 rfl) ?_
  refine lv_iconst (v := 0) F.1 F.2.1 dX2_handle_1 rfl ?_
  obtain ⟨M1, eM1, hs⟩ := lt_some hs
  refine hC_X2_24 hk0 F hq hP hS eM1 dX2_handle_2 (fun H locs hP hS => ?_)
  refine lv_aload_n F.1 F.2.1 dX2_handle_5 rfl (lv_at hl 0 rfl) ?_
  refine lv_iload_n F.1 F.2.1 dX2_handle_6 rfl (lv_at hl 1 rfl) ?_
  obtain ⟨M2, h1, hs⟩ := bn_some hs
  refine x_callV (rest := []) wv_X2_43 F hS (fun _ h => h) hS.2.1 (tX2_push l G A q hq hk0 h1) hP (x_recv (ci := 1) F hP rfl (by have := hk0; omega) (eC_F G q hk0 _)) rfl hl.1 rfl ⟨Nat.le_of_ble_eq_true rfl, Nat.le_of_ble_eq_true rfl⟩ ⟨Nat.le_refl _, Nat.le_refl _⟩ (Nat.le_of_ble_eq_true rfl) dX2_handle_7 (fun H locs hP hS _ _ => ?_)
  refine lv_aload_n F.1 F.2.1 dX2_handle_10 rfl (lv_at hl 0 rfl) ?_
  refine lv_aload_n F.1 F.2.1 dX2_handle_11 rfl (lv_at hl 0 rfl) ?_
  refine gC_X2_40 hk0 F hP dX2_handle_12 ?_
  obtain ⟨M3, eM3, hs⟩ := lt_some hs
  refine hC_X2_37 hk0 F hq hP hS eM3 dX2_handle_15 (fun H locs hP hS => ?_)
  refine lv_aload_n F.1 F.2.1 dX2_handle_18 rfl (lv_at hl 0 rfl) ?_
  refine lv_sipush (v := (-1024)) F.1 F.2.1 dX2_handle_19 rfl ?_
  obtain ⟨M4, eM4, hs⟩ := lt_some hs
  refine hC_X2_40 hk0 F hq hP hS eM4 dX2_handle_22 (fun H locs hP hS => ?_)
  cases hs
  exact x_vret F hP hS dX2_handle_25

def pX5_setTear (M : St) (x1 : Int32) : Option St :=
  if 0 ≤ x1 then
    lt (up2 M 3 1 x1) fun M1 =>
    some M1
  else
    lt (up2 M 3 1 ((-1))) fun M2 =>
    some M2
set_option maxHeartbeats 4000000 in
set_option maxRecDepth 100000 in
theorem tX5_setTear (l : Launch) (G : zG) (A : Nat → Prop) (q : Nat → Nat) (hq : zQD A 58 q) {M M' : St} {x1 : Int32} (hs : pX5_setTear M x1 = some M') : zKV l yX5_setTear cX5_setTear 2 0 0 G A (zP G.1 58 q (eC G q) M) [.ref (q 3), .int x1] (zP G.1 58 q (eC G q) M') := by
  refine zKV_of (by decide) (Nat.le_of_ble_eq_true rfl) (fun p e s m args below meth c H ls F hH hP hl => ?_)
  have F : zFx p s m args meth c cX5_setTear RX5 2 none G A := F
  have hS : va_S A s.heap H [] := hH ▸ va_S.rf
  have hl : lv_has ls 2 [(0, .ref (q 3)), (1, .int x1)] := hl
  rw [pX5_setTear] at hs
  refine lv_aload_n F.1 F.2.1 dX5_setTear_0 rfl (lv_at hl 0 rfl) ?_
  refine lv_iload_n F.1 F.2.1 dX5_setTear_1 rfl (lv_at hl 1 rfl) ?_
  refine lv_if_ge (tgt := 9) F.1 F.2.1 dX5_setTear_2 (by decide) (fun c1 => ?_) (fun c1 => ?_)
  · have hs := it_t c1 hs
    refine lv_iload_n F.1 F.2.1 dX5_setTear_9 rfl (lv_at hl 1 rfl) ?_
    obtain ⟨M1, eM1, hs⟩ := lt_some hs
    refine hC_X5_15 F hq hP hS eM1 dX5_setTear_10 (fun H locs hP hS => ?_)
    cases hs
    exact x_vret F hP hS dX5_setTear_13
  have hs := it_f c1 hs
  refine lv_iconst (v := (-1)) F.1 F.2.1 dX5_setTear_5 rfl ?_
  refine lv_goto (tgt := 10) F.1 F.2.1 dX5_setTear_6 (by decide) ?_
  obtain ⟨M2, eM2, hs⟩ := lt_some hs
  refine hC_X5_15 F hq hP hS eM2 dX5_setTear_10 (fun H locs hP hS => ?_)
  cases hs
  exact x_vret F hP hS dX5_setTear_13

def pX5_lastsForWrite (M : St) : Option (Int32 × St) :=
  if M 3 1 = 0 then
    lt (up2 M 3 1 ((-1))) fun M2 =>
    lt (up2 M2 3 0 0) fun M3 =>
    gd (isb (M3 3 0)) <|
    some (M3 3 0, M3)
  else
    if M 3 1 ≤ 0 then
      gd (isb (M 3 0)) <|
      some (M 3 0, M)
    else
      lt (up2 M 3 1 ((M 3 1) - 1)) fun M1 =>
      gd (isb (M1 3 0)) <|
      some (M1 3 0, M1)
set_option maxHeartbeats 4000000 in
set_option maxRecDepth 100000 in
theorem tX5_lastsForWrite (l : Launch) (G : zG) (A : Nat → Prop) (q : Nat → Nat) (hq : zQD A 58 q) {M M' : St} {r : Int32} (hs : pX5_lastsForWrite M = some (r, M')) : zKI l yX5_lastsForWrite cX5_lastsForWrite 1 (some .boolean) 0 0 G A (zP G.1 58 q (eC G q) M) [.ref (q 3)] r (zP G.1 58 q (eC G q) M') := by
  refine zKI_of (by decide) (Nat.le_of_ble_eq_true rfl) (fun p e s m args below meth c H ls F hH hP hl => ?_)
  have F : zFx p s m args meth c cX5_lastsForWrite RX5 1 (some .boolean) G A := F
  have hS : va_S A s.heap H [] := hH ▸ va_S.rf
  have hl : lv_has ls 1 [(0, .ref (q 3))] := hl
  rw [pX5_lastsForWrite] at hs
  refine lv_aload_n F.1 F.2.1 dX5_lastsForWrite_0 rfl (lv_at hl 0 rfl) ?_
  refine gC_X5_15 F hP dX5_lastsForWrite_1 ?_
  refine lv_if_ne (tgt := 20) F.1 F.2.1 dX5_lastsForWrite_4 (by decide) (fun c1 => ?_) (fun c1 => ?_)
  · have hs := it_f c1 hs
    refine lv_aload_n F.1 F.2.1 dX5_lastsForWrite_20 rfl (lv_at hl 0 rfl) ?_
    refine gC_X5_15 F hP dX5_lastsForWrite_21 ?_
    refine lv_if_le (tgt := 37) F.1 F.2.1 dX5_lastsForWrite_24 (by decide) (fun c2 => ?_) (fun c2 => ?_)
    · have hs := it_t c2 hs
      refine lv_aload_n F.1 F.2.1 dX5_lastsForWrite_37 rfl (lv_at hl 0 rfl) ?_
      refine gC_X5_9 F hP dX5_lastsForWrite_38 ?_
      obtain ⟨g1, hs⟩ := gd_some hs
      cases hs
      exact x_iret F (isb_nar g1) rfl hP hS dX5_lastsForWrite_41
    have hs := it_f c2 hs
    refine lv_aload_n F.1 F.2.1 dX5_lastsForWrite_27 rfl (lv_at hl 0 rfl) ?_
    refine lv_dup F.1 F.2.1 dX5_lastsForWrite_28 rfl ?_
    refine gC_X5_15 F hP dX5_lastsForWrite_29 ?_
    refine lv_iconst (v := 1) F.1 F.2.1 dX5_lastsForWrite_32 rfl ?_
    refine lv_isub F.1 F.2.1 dX5_lastsForWrite_33 ?_
    obtain ⟨M1, eM1, hs⟩ := lt_some hs
    refine hC_X5_15 F hq hP hS eM1 dX5_lastsForWrite_34 (fun H locs hP hS => ?_)
    refine lv_aload_n F.1 F.2.1 dX5_lastsForWrite_37 rfl (lv_at hl 0 rfl) ?_
    refine gC_X5_9 F hP dX5_lastsForWrite_38 ?_
    obtain ⟨g2, hs⟩ := gd_some hs
    cases hs
    exact x_iret F (isb_nar g2) rfl hP hS dX5_lastsForWrite_41
  have hs := it_t c1 hs
  refine lv_aload_n F.1 F.2.1 dX5_lastsForWrite_7 rfl (lv_at hl 0 rfl) ?_
  refine lv_iconst (v := (-1)) F.1 F.2.1 dX5_lastsForWrite_8 rfl ?_
  obtain ⟨M2, eM2, hs⟩ := lt_some hs
  refine hC_X5_15 F hq hP hS eM2 dX5_lastsForWrite_9 (fun H locs hP hS => ?_)
  refine lv_aload_n F.1 F.2.1 dX5_lastsForWrite_12 rfl (lv_at hl 0 rfl) ?_
  refine lv_iconst (v := 0) F.1 F.2.1 dX5_lastsForWrite_13 rfl ?_
  obtain ⟨M3, eM3, hs⟩ := lt_some hs
  refine hC_X5_9 rfl F hq hP hS eM3 dX5_lastsForWrite_14 (fun H locs hP hS => ?_)
  refine lv_goto (tgt := 37) F.1 F.2.1 dX5_lastsForWrite_17 (by decide) ?_
  refine lv_aload_n F.1 F.2.1 dX5_lastsForWrite_37 rfl (lv_at hl 0 rfl) ?_
  refine gC_X5_9 F hP dX5_lastsForWrite_38 ?_
  obtain ⟨g3, hs⟩ := gd_some hs
  cases hs
  exact x_iret F (isb_nar g3) rfl hP hS dX5_lastsForWrite_41
