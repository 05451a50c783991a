def pX7_has (M : St) (x1 : Int32) : Option Int32 :=
  if x1 < 1 then
    some 0
  else
    if M 2 4 < x1 then
      some 0
    else
      some 1
set_option maxHeartbeats 4000000 in
set_option maxRecDepth 100000 in
theorem tX7_has (l : Launch) (G : zG) (A : Nat → Prop) (q : Nat → Nat) (hq : zQD A 58 q) {M : St} {r : Int32} {x1 : Int32} (hs : pX7_has M x1 = some r) : zKI l yX7_has cX7_has 2 (some .boolean) 0 0 G A (zP G.1 58 q (eC G q) M) [.ref (q 2), .int x1] r (zP G.1 58 q (eC G q) M) := by
  refine zKI_of (by decide) (Nat.le_of_ble_eq_true rfl) (fun p e s m args below meth c H ls F hH hP hl => ?_)
  have F : zFx p s m args meth c cX7_has RX7 2 (some .boolean) G A := F
  have hS : va_S A s.heap H [] := hH ▸ va_S.rf
  have hl : lv_has ls 2 [(0, .ref (q 2)), (1, .int x1)] := hl
  rw [pX7_has] at hs
  refine lv_iload_n F.1 F.2.1 dX7_has_0 rfl (lv_at hl 1 rfl) ?_
  refine lv_iconst (v := 1) F.1 F.2.1 dX7_has_1 rfl ?_
  refine lv_icmp_lt (tgt := 17) F.1 F.2.1 dX7_has_2 (by decide) (fun c1 => ?_) (fun c1 => ?_)
  · have hs := it_t c1 hs
    refine lv_iconst (v := 0) F.1 F.2.1 dX7_has_17 rfl ?_
    cases hs
    exact x_iret F rfl rfl hP hS dX7_has_18
  have hs := it_f c1 hs
  refine lv_iload_n F.1 F.2.1 dX7_has_5 rfl (lv_at hl 1 rfl) ?_
  refine lv_aload_n F.1 F.2.1 dX7_has_6 rfl (lv_at hl 0 rfl) ?_
  refine gC_X7_44 F hP dX7_has_7 ?_
  refine lv_icmp_gt (tgt := 17) F.1 F.2.1 dX7_has_10 (by decide) (fun c2 => ?_) (fun c2 => ?_)
  · have hs := it_t c2 hs
    refine lv_iconst (v := 0) F.1 F.2.1 dX7_has_17 rfl ?_
    cases hs
    exact x_iret F rfl rfl hP hS dX7_has_18
  have hs := it_f c2 hs
  refine lv_iconst (v := 1) F.1 F.2.1 dX7_has_13 rfl ?_
  refine lv_goto (tgt := 18) F.1 F.2.1 dX7_has_14 (by decide) ?_
  cases hs
  exact x_iret F rfl rfl hP hS dX7_has_18

def pX7_hasCells (M : St) (x1 : Int32) (x2 : Int32) (x3 : Int32) : Option Int32 :=
  if x2 < 0 then
    some 0
  else
    gd (inb x1 41) <|
    if (M 53 (ix x1)) - x3 < x2 then
      some 0
    else
      some 1
set_option maxHeartbeats 4000000 in
set_option maxRecDepth 100000 in
theorem tX7_hasCells (l : Launch) (G : zG) (A : Nat → Prop) (q : Nat → Nat) (hq : zQD A 58 q) {M : St} {r : Int32} {x1 : Int32} {x2 : Int32} {x3 : Int32} (hs : pX7_hasCells M x1 x2 x3 = some r) : zKI l yX7_hasCells cX7_hasCells 4 (some .boolean) 0 0 G A (zP G.1 58 q (eC G q) M) [.ref (q 2), .int x1, .int x2, .int x3] r (zP G.1 58 q (eC G q) M) := by
  refine zKI_of (by decide) (Nat.le_of_ble_eq_true rfl) (fun p e s m args below meth c H ls F hH hP hl => ?_)
  have F : zFx p s m args meth c cX7_hasCells RX7 4 (some .boolean) G A := F
  have hS : va_S A s.heap H [] := hH ▸ va_S.rf
  have hl : lv_has ls 4 [(0, .ref (q 2)), (1, .int x1), (2, .int x2), (3, .int x3)] := hl
  rw [pX7_hasCells] at hs
  refine lv_iload_n F.1 F.2.1 dX7_hasCells_0 rfl (lv_at hl 2 rfl) ?_
  refine lv_if_lt (tgt := 20) F.1 F.2.1 dX7_hasCells_1 (by decide) (fun c1 => ?_) (fun c1 => ?_)
  · have hs := it_t c1 hs
    refine lv_iconst (v := 0) F.1 F.2.1 dX7_hasCells_20 rfl ?_
    cases hs
    exact x_iret F rfl rfl hP hS dX7_hasCells_21
  have hs := it_f c1 hs
  refine lv_iload_n F.1 F.2.1 dX7_hasCells_4 rfl (lv_at hl 2 rfl) ?_
  refine lv_aload_n F.1 F.2.1 dX7_hasCells_5 rfl (lv_at hl 0 rfl) ?_
  refine gC_X7_25 F hP dX7_hasCells_6 ?_
  refine lv_iload_n F.1 F.2.1 dX7_hasCells_9 rfl (lv_at hl 1 rfl) ?_
  obtain ⟨g1, hs⟩ := gd_some hs
  refine x_iald F hP (arC_53 G q) g1 dX7_hasCells_10 ?_
  refine lv_iload_n F.1 F.2.1 dX7_hasCells_11 rfl (lv_at hl 3 rfl) ?_
  refine lv_isub F.1 F.2.1 dX7_hasCells_12 ?_
  refine lv_icmp_gt (tgt := 20) F.1 F.2.1 dX7_hasCells_13 (by decide) (fun c2 => ?_) (fun c2 => ?_)
  · have hs := it_t c2 hs
    refine lv_iconst (v := 0) F.1 F.2.1 dX7_hasCells_20 rfl ?_
    cases hs
    exact x_iret F rfl rfl hP hS dX7_hasCells_21
  have hs := it_f c2 hs
  refine lv_iconst (v := 1) F.1 F.2.1 dX7_hasCells_16 rfl ?_
  refine lv_goto (tgt := 21) F.1 F.2.1 dX7_hasCells_17 (by decide) ?_
  cases hs
  exact x_iret F rfl rfl hP hS dX7_hasCells_21

def pX7_read (M : St) (x1 : Int32) (x2 : Int32) : Option Int32 :=
  gd (inb x1 41) <|
  gd (inb ((M 54 (ix x1)) + x2) 240) <|
  some (M 55 (ix ((M 54 (ix x1)) + x2)))
set_option maxHeartbeats 4000000 in
set_option maxRecDepth 100000 in
theorem tX7_read (l : Launch) (G : zG) (A : Nat → Prop) (q : Nat → Nat) (hq : zQD A 58 q) {M : St} {r : Int32} {x1 : Int32} {x2 : Int32} (hs : pX7_read M x1 x2 = some r) : zKI l yX7_read cX7_read 3 (some .int) 0 0 G A (zP G.1 58 q (eC G q) M) [.ref (q 2), .int x1, .int x2] r (zP G.1 58 q (eC G q) M) := by
  refine zKI_of (by decide) (Nat.le_of_ble_eq_true rfl) (fun p e s m args below meth c H ls F hH hP hl => ?_)
  have F : zFx p s m args meth c cX7_read RX7 3 (some .int) G A := F
  have hS : va_S A s.heap H [] := hH ▸ va_S.rf
  have hl : lv_has ls 3 [(0, .ref (q 2)), (1, .int x1), (2, .int x2)] := hl
  rw [pX7_read] at hs
  refine lv_aload_n F.1 F.2.1 dX7_read_0 rfl (lv_at hl 0 rfl) ?_
  refine gC_X7_31 F hP dX7_read_1 ?_
  refine lv_aload_n F.1 F.2.1 dX7_read_4 rfl (lv_at hl 0 rfl) ?_
  refine gC_X7_28 F hP dX7_read_5 ?_
  refine lv_iload_n F.1 F.2.1 dX7_read_8 rfl (lv_at hl 1 rfl) ?_
  obtain ⟨g1, hs⟩ := gd_some hs
  refine x_iald F hP (arC_54 G q) g1 dX7_read_9 ?_
  refine lv_iload_n F.1 F.2.1 dX7_read_10 rfl (lv_at hl 2 rfl) ?_
  refine lv_iadd F.1 F.2.1 dX7_read_11 ?_
  obtain ⟨g2, hs⟩ := gd_some hs
  refine x_iald F hP (arC_55 G q) g2 dX7_read_12 ?_
  cases hs
  exact x_iret F rfl rfl hP hS dX7_read_13

def pX7_mayUse (M : St) (x1 : Int32) (x2 : Int32) : Option Int32 :=
  if x1 = 0 then
    some 1
  else
    gd (inb x2 41) <|
    if x1 = M 51 (ix x2) then
      some 1
    else
      some 0
set_option maxHeartbeats 4000000 in
set_option maxRecDepth 100000 in
theorem tX7_mayUse (l : Launch) (G : zG) (A : Nat → Prop) (q : Nat → Nat) (hq : zQD A 58 q) {M : St} {r : Int32} {x1 : Int32} {x2 : Int32} (hs : pX7_mayUse M x1 x2 = some r) : zKI l yX7_mayUse cX7_mayUse 3 (some .boolean) 0 0 G A (zP G.1 58 q (eC G q) M) [.ref (q 2), .int x1, .int x2] r (zP G.1 58 q (eC G q) M) := by
  refine zKI_of (by decide) (Nat.le_of_ble_eq_true rfl) (fun p e s m args below meth c H ls F hH hP hl => ?_)
  have F : zFx p s m args meth c cX7_mayUse RX7 3 (some .boolean) G A := F
  have hS : va_S A s.heap H [] := hH ▸ va_S.rf
  have hl : lv_has ls 3 [(0, .ref (q 2)), (1, .int x1), (2, .int x2)] := hl
  rw [pX7_mayUse] at hs
  refine lv_iload_n F.1 F.2.1 dX7_mayUse_0 rfl (lv_at hl 1 rfl) ?_
  refine lv_if_eq (tgt := 14) F.1 F.2.1 dX7_mayUse_1 (by decide) (fun c1 => ?_) (fun c1 => ?_)
  · have hs := it_t c1 hs
    refine lv_iconst (v := 1) F.1 F.2.1 dX7_mayUse_14 rfl ?_
    refine lv_goto (tgt := 19) F.1 F.2.1 dX7_mayUse_15 (by decide) ?_
    cases hs
    exact x_iret F rfl rfl hP hS dX7_mayUse_19
  have hs := it_f c1 hs
  refine lv_iload_n F.1 F.2.1 dX7_mayUse_4 rfl (lv_at hl 1 rfl) ?_
  refine lv_aload_n F.1 F.2.1 dX7_mayUse_5 rfl (lv_at hl 0 rfl) ?_
  refine gC_X7_18 F hP dX7_mayUse_6 ?_
  refine lv_iload_n F.1 F.2.1 dX7_mayUse_9 rfl (lv_at hl 2 rfl) ?_
  obtain ⟨g1, hs⟩ := gd_some hs
  refine x_iald F hP (arC_51 G q) g1 dX7_mayUse_10 ?_
  refine lv_icmp_ne (tgt := 18) F.1 F.2.1 dX7_mayUse_11 (by decide) (fun c2 => ?_) (fun c2 => ?_)
  · have hs := it_f c2 hs
    refine lv_iconst (v := 0) F.1 F.2.1 dX7_mayUse_18 rfl ?_
    cases hs
    exact x_iret F rfl rfl hP hS dX7_mayUse_19
  have hs := it_t c2 hs
  refine lv_iconst (v := 1) F.1 F.2.1 dX7_mayUse_14 rfl ?_
  refine lv_goto (tgt := 19) F.1 F.2.1 dX7_mayUse_15 (by decide) ?_
  cases hs
  exact x_iret F rfl rfl hP hS dX7_mayUse_19

def pX7_cellFault (M : St) (x1 : Int32) (x2 : Int32) (x3 : Int32) : Option Int32 :=
  bn (pX7_has M x2) fun r1 =>
  if r1 = 0 then
    some 2
  else
    bn (pX7_mayUse M x1 x2) fun r2 =>
    if r2 = 0 then
      some 4
    else
      bn (pX7_hasCells M x2 x3 1) fun r3 =>
      if r3 = 0 then
        some 3
      else
        some 65536
set_option maxHeartbeats 4000000 in
set_option maxRecDepth 100000 in
theorem tX7_cellFault (l : Launch) (G : zG) (A : Nat → Prop) (q : Nat → Nat) (hq : zQD A 58 q) {M : St} {r : Int32} {x1 : Int32} {x2 : Int32} {x3 : Int32} (hs : pX7_cellFault M x1 x2 x3 = some r) : zKI l yX7_cellFault cX7_cellFault 4 (some .int) 1 23 G A (zP G.1 58 q (eC G q) M) [.ref (q 2), .int x1, .int x2, .int x3] r (zP G.1 58 q (eC G q) M) := by
  refine zKI_of (by decide) (Nat.le_of_ble_eq_true rfl) (fun p e s m args below meth c H ls F hH hP hl => ?_)
  have F : zFx p s m args meth c cX7_cellFault RX7 4 (some .int) G A := F
  have hS : va_S A s.heap H [] := hH ▸ va_S.rf
  have hl : lv_has ls 4 [(0, .ref (q 2)), (1, .int x1), (2, .int x2), (3, .int x3)] := hl
  rw [pX7_cellFault] at hs
  refine lv_aload_n F.1 F.2.1 dX7_cellFault_0 rfl (lv_at hl 0 rfl) ?_
  refine lv_iload_n F.1 F.2.1 dX7_cellFault_1 rfl (lv_at hl 2 rfl) ?_
  obtain ⟨r1, h1, hs⟩ := bn_some hs
  refine x_callI (rest := []) wv_X7_48 F hS (fun _ h => h) hS.2.1 (tX7_has l G A q hq h1) hP (x_recv (ci := 5) F hP rfl (by decide) (eC_2 G q _)) rfl hl.1 rfl ⟨Nat.le_of_ble_eq_true rfl, Nat.le_of_ble_eq_true rfl⟩ ⟨Nat.le_refl _, Nat.le_refl _⟩ (Nat.le_of_ble_eq_true rfl) dX7_cellFault_2 (fun H locs hP hS _ _ => ?_)
  refine lv_if_ne (tgt := 10) F.1 F.2.1 dX7_cellFault_5 (by decide) (fun c1 => ?_) (fun c1 => ?_)
  · have hs := it_f c1 hs
    refine lv_aload_n F.1 F.2.1 dX7_cellFault_10 rfl (lv_at hl 0 rfl) ?_
    refine lv_iload_n F.1 F.2.1 dX7_cellFault_11 rfl (lv_at hl 1 rfl) ?_
    refine lv_iload_n F.1 F.2.1 dX7_cellFault_12 rfl (lv_at hl 2 rfl) ?_
    obtain ⟨r2, h2, hs⟩ := bn_some hs
    refine x_callI (rest := []) wv_X7_52 F hS (fun _ h => h) hS.2.1 (tX7_mayUse l G A q hq h2) hP (x_recv (ci := 5) F hP rfl (by decide) (eC_2 G q _)) rfl hl.1 rfl ⟨Nat.le_of_ble_eq_true rfl, Nat.le_of_ble_eq_true rfl⟩ ⟨Nat.le_refl _, Nat.le_refl _⟩ (Nat.le_of_ble_eq_true rfl) dX7_cellFault_13 (fun H locs hP hS _ _ => ?_)
    refine lv_if_ne (tgt := 21) F.1 F.2.1 dX7_cellFault_16 (by decide) (fun c2 => ?_) (fun c2 => ?_)
    · have hs := it_f c2 hs
      refine lv_aload_n F.1 F.2.1 dX7_cellFault_21 rfl (lv_at hl 0 rfl) ?_
      refine lv_iload_n F.1 F.2.1 dX7_cellFault_22 rfl (lv_at hl 2 rfl) ?_
      refine lv_iload_n F.1 F.2.1 dX7_cellFault_23 rfl (lv_at hl 3 rfl) ?_
      refine lv_iconst (v := 1) F.1 F.2.1 dX7_cellFault_24 rfl ?_
      obtain ⟨r3, h3, hs⟩ := bn_some hs
      refine x_callI (rest := []) wv_X7_56 F hS (fun _ h => h) hS.2.1 (tX7_hasCells l G A q hq h3) hP (x_recv (ci := 5) F hP rfl (by decide) (eC_2 G q _)) rfl hl.1 rfl ⟨Nat.le_of_ble_eq_true rfl, Nat.le_of_ble_eq_true rfl⟩ ⟨Nat.le_refl _, Nat.le_refl _⟩ (Nat.le_of_ble_eq_true rfl) dX7_cellFault_25 (fun H locs hP hS _ _ => ?_)
      refine lv_if_eq (tgt := 36) F.1 F.2.1 dX7_cellFault_28 (by decide) (fun c3 => ?_) (fun c3 => ?_)
      · have hs := it_t c3 hs
        refine lv_iconst (v := 3) F.1 F.2.1 dX7_cellFault_36 rfl ?_
        cases hs
        exact x_iret F rfl rfl hP hS dX7_cellFault_37
      have hs := it_f c3 hs
      refine lv_ldc (v := 65536) F.1 F.2.1 F.2.2.2.1 (F.ws m_1_175) dX7_cellFault_31 ?_
      refine lv_goto (tgt := 37) F.1 F.2.1 dX7_cellFault_33 (by decide) ?_
      cases hs
      exact x_iret F rfl rfl hP hS dX7_cellFault_37
    have hs := it_t c2 hs
    refine lv_iconst (v := 4) F.1 F.2.1 dX7_cellFault_19 rfl ?_
    cases hs
    exact x_iret F rfl rfl hP hS dX7_cellFault_20
  have hs := it_t c1 hs
  refine lv_iconst (v := 2) F.1 F.2.1 dX7_cellFault_8 rfl ?_
  cases hs
  exact x_iret F rfl rfl hP hS dX7_cellFault_9

def pX7_thingFault (M : St) : Option Int32 :=
  if M 2 5 = 0 then
    some 65536
  else
    if M 2 12 = 20 then
      some 5
    else
      some 65536
set_option maxHeartbeats 4000000 in
set_option maxRecDepth 100000 in
theorem tX7_thingFault (l : Launch) (G : zG) (A : Nat → Prop) (q : Nat → Nat) (hq : zQD A 58 q) {M : St} {r : Int32} (hs : pX7_thingFault M = some r) : zKI l yX7_thingFault cX7_thingFault 1 (some .int) 0 0 G A (zP G.1 58 q (eC G q) M) [.ref (q 2)] r (zP G.1 58 q (eC G q) M) := by
  refine zKI_of (by decide) (Nat.le_of_ble_eq_true rfl) (fun p e s m args below meth c H ls F hH hP hl => ?_)
  have F : zFx p s m args meth c cX7_thingFault RX7 1 (some .int) G A := F
  have hS : va_S A s.heap H [] := hH ▸ va_S.rf
  have hl : lv_has ls 1 [(0, .ref (q 2))] := hl
  rw [pX7_thingFault] at hs
  refine lv_aload_n F.1 F.2.1 dX7_thingFault_0 rfl (lv_at hl 0 rfl) ?_
  refine gC_X7_61 F hP dX7_thingFault_1 ?_
  refine lv_if_eq (tgt := 20) F.1 F.2.1 dX7_thingFault_4 (by decide) (fun c1 => ?_) (fun c1 => ?_)
  · have hs := it_t c1 hs
    refine lv_ldc (v := 65536) F.1 F.2.1 F.2.2.2.1 (F.ws m_1_175) dX7_thingFault_20 ?_
    cases hs
    exact x_iret F rfl rfl hP hS dX7_thingFault_22
  have hs := it_f c1 hs
  refine lv_aload_n F.1 F.2.1 dX7_thingFault_7 rfl (lv_at hl 0 rfl) ?_
  refine gC_X7_65 F hP dX7_thingFault_8 ?_
  refine lv_bipush (v := 20) F.1 F.2.1 dX7_thingFault_11 rfl ?_
  refine lv_icmp_ne (tgt := 20) F.1 F.2.1 dX7_thingFault_13 (by decide) (fun c2 => ?_) (fun c2 => ?_)
  · have hs := it_f c2 hs
    refine lv_ldc (v := 65536) F.1 F.2.1 F.2.2.2.1 (F.ws m_1_175) dX7_thingFault_20 ?_
    cases hs
    exact x_iret F rfl rfl hP hS dX7_thingFault_22
  have hs := it_t c2 hs
  refine lv_iconst (v := 5) F.1 F.2.1 dX7_thingFault_16 rfl ?_
  refine lv_goto (tgt := 22) F.1 F.2.1 dX7_thingFault_17 (by decide) ?_
  cases hs
  exact x_iret F rfl rfl hP hS dX7_thingFault_22

def pX7_makeFault (M : St) (x1 : Int32) : Option Int32 :=
  if x1 < 1 then
    some 8
  else
    if 16 < x1 then
      some 8
    else
      if 240 - (M 2 8) < x1 then
        some 8
      else
        if M 2 4 = 40 then
          some 8
        else
          bn (pX7_thingFault M) fun r1 =>
          some r1
set_option maxHeartbeats 4000000 in
set_option maxRecDepth 100000 in
theorem tX7_makeFault (l : Launch) (G : zG) (A : Nat → Prop) (q : Nat → Nat) (hq : zQD A 58 q) {M : St} {r : Int32} {x1 : Int32} (hs : pX7_makeFault M x1 = some r) : zKI l yX7_makeFault cX7_makeFault 2 (some .int) 1 20 G A (zP G.1 58 q (eC G q) M) [.ref (q 2), .int x1] r (zP G.1 58 q (eC G q) M) := by
  refine zKI_of (by decide) (Nat.le_of_ble_eq_true rfl) (fun p e s m args below meth c H ls F hH hP hl => ?_)
  have F : zFx p s m args meth c cX7_makeFault RX7 2 (some .int) G A := F
  have hS : va_S A s.heap H [] := hH ▸ va_S.rf
  have hl : lv_has ls 2 [(0, .ref (q 2)), (1, .int x1)] := hl
  rw [pX7_makeFault] at hs
  refine lv_iload_n F.1 F.2.1 dX7_makeFault_0 rfl (lv_at hl 1 rfl) ?_
  refine lv_iconst (v := 1) F.1 F.2.1 dX7_makeFault_1 rfl ?_
  refine lv_icmp_lt (tgt := 32) F.1 F.2.1 dX7_makeFault_2 (by decide) (fun c1 => ?_) (fun c1 => ?_)
  · have hs := it_t c1 hs
    refine lv_bipush (v := 8) F.1 F.2.1 dX7_makeFault_32 rfl ?_
    cases hs
    exact x_iret F rfl rfl hP hS dX7_makeFault_34
  have hs := it_f c1 hs
  refine lv_iload_n F.1 F.2.1 dX7_makeFault_5 rfl (lv_at hl 1 rfl) ?_
  refine lv_bipush (v := 16) F.1 F.2.1 dX7_makeFault_6 rfl ?_
  refine lv_icmp_gt (tgt := 32) F.1 F.2.1 dX7_makeFault_8 (by decide) (fun c2 => ?_) (fun c2 => ?_)
  · have hs := it_t c2 hs
    refine lv_bipush (v := 8) F.1 F.2.1 dX7_makeFault_32 rfl ?_
    cases hs
    exact x_iret F rfl rfl hP hS dX7_makeFault_34
  have hs := it_f c2 hs
  refine lv_iload_n F.1 F.2.1 dX7_makeFault_11 rfl (lv_at hl 1 rfl) ?_
  refine lv_sipush (v := 240) F.1 F.2.1 dX7_makeFault_12 rfl ?_
  refine lv_aload_n F.1 F.2.1 dX7_makeFault_15 rfl (lv_at hl 0 rfl) ?_
  refine gC_X7_68 F hP dX7_makeFault_16 ?_
  refine lv_isub F.1 F.2.1 dX7_makeFault_19 ?_
  refine lv_icmp_gt (tgt := 32) F.1 F.2.1 dX7_makeFault_20 (by decide) (fun c3 => ?_) (fun c3 => ?_)
  · have hs := it_t c3 hs
    refine lv_bipush (v := 8) F.1 F.2.1 dX7_makeFault_32 rfl ?_
    cases hs
    exact x_iret F rfl rfl hP hS dX7_makeFault_34
  have hs := it_f c3 hs
  refine lv_aload_n F.1 F.2.1 dX7_makeFault_23 rfl (lv_at hl 0 rfl) ?_
  refine gC_X7_44 F hP dX7_makeFault_24 ?_
  refine lv_bipush (v := 40) F.1 F.2.1 dX7_makeFault_27 rfl ?_
  refine lv_icmp_ne (tgt := 35) F.1 F.2.1 dX7_makeFault_29 (by decide) (fun c4 => ?_) (fun c4 => ?_)
  · have hs := it_f c4 hs
    refine lv_aload_n F.1 F.2.1 dX7_makeFault_35 rfl (lv_at hl 0 rfl) ?_
    obtain ⟨r1, h1, hs⟩ := bn_some hs
    refine x_callI (rest := []) wv_X7_71 F hS (fun _ h => h) hS.2.1 (tX7_thingFault l G A q hq h1) hP (x_recv (ci := 5) F hP rfl (by decide) (eC_2 G q _)) rfl hl.1 rfl ⟨Nat.le_of_ble_eq_true rfl, Nat.le_of_ble_eq_true rfl⟩ ⟨Nat.le_refl _, Nat.le_refl _⟩ (Nat.le_of_ble_eq_true rfl) dX7_makeFault_36 (fun H locs hP hS _ _ => ?_)
    cases hs
    exact x_iret F rfl rfl hP hS dX7_makeFault_39
  have hs := it_t c4 hs
  refine lv_bipush (v := 8) F.1 F.2.1 dX7_makeFault_32 rfl ?_
  cases hs
  exact x_iret F rfl rfl hP hS dX7_makeFault_34

def pX7_copyFault (M : St) (x1 : Int32) (x2 : Int32) (x3 : Int32) (x4 : Int32) (x5 : Int32) (x6 : Int32) : Option Int32 :=
  bn (pX7_has M x2) fun r1 =>
  if r1 = 0 then
    some 2
  else
    bn (pX7_has M x4) fun r2 =>
    if r2 = 0 then
      some 2
    else
      bn (pX7_mayUse M x1 x2) fun r3 =>
      if r3 = 0 then
        some 4
      else
        bn (pX7_mayUse M x1 x4) fun r4 =>
        if r4 = 0 then
          some 4
        else
          gd (inb x2 41) <|
          if M 52 (ix x2) = 1 then
            gd (inb x4 41) <|
            if M 52 (ix x4) = 1 then
              if 0 ≤ x6 then
                bn (pX7_hasCells M x2 x3 x6) fun r5 =>
                if r5 = 0 then
                  some 3
                else
                  bn (pX7_hasCells M x4 x5 x6) fun r6 =>
                  if r6 = 0 then
                    some 3
                  else
                    some 65536
              else
                some 8
            else
              some 11
          else
            some 11
set_option maxHeartbeats 4000000 in
set_option maxRecDepth 100000 in
theorem tX7_copyFault (l : Launch) (G : zG) (A : Nat → Prop) (q : Nat → Nat) (hq : zQD A 58 q) {M : St} {r : Int32} {x1 : Int32} {x2 : Int32} {x3 : Int32} {x4 : Int32} {x5 : Int32} {x6 : Int32} (hs : pX7_copyFault M x1 x2 x3 x4 x5 x6 = some r) : zKI l yX7_copyFault cX7_copyFault 7 (some .int) 1 23 G A (zP G.1 58 q (eC G q) M) [.ref (q 2), .int x1, .int x2, .int x3, .int x4, .int x5, .int x6] r (zP G.1 58 q (eC G q) M) := by
  refine zKI_of (by decide) (Nat.le_of_ble_eq_true rfl) (fun p e s m args below meth c H ls F hH hP hl => ?_)
  have F : zFx p s m args meth c cX7_copyFault RX7 7 (some .int) G A := F
  have hS : va_S A s.heap H [] := hH ▸ va_S.rf
  have hl : lv_has ls 7 [(0, .ref (q 2)), (1, .int x1), (2, .int x2), (3, .int x3), (4, .int x4), (5, .int x5), (6, .int x6)] := hl
  rw [pX7_copyFault] at hs
  refine lv_aload_n F.1 F.2.1 dX7_copyFault_0 rfl (lv_at hl 0 rfl) ?_
  refine lv_iload_n F.1 F.2.1 dX7_copyFault_1 rfl (lv_at hl 2 rfl) ?_
  obtain ⟨r1, h1, hs⟩ := bn_some hs
  refine x_callI (rest := []) wv_X7_48 F hS (fun _ h => h) hS.2.1 (tX7_has l G A q hq h1) hP (x_recv (ci := 5) F hP rfl (by decide) (eC_2 G q _)) rfl hl.1 rfl ⟨Nat.le_of_ble_eq_true rfl, Nat.le_of_ble_eq_true rfl⟩ ⟨Nat.le_refl _, Nat.le_refl _⟩ (Nat.le_of_ble_eq_true rfl) dX7_copyFault_2 (fun H locs hP hS _ _ => ?_)
  refine lv_if_eq (tgt := 17) F.1 F.2.1 dX7_copyFault_5 (by decide) (fun c1 => ?_) (fun c1 => ?_)
  · have hs := it_t c1 hs
    refine lv_iconst (v := 2) F.1 F.2.1 dX7_copyFault_17 rfl ?_
    cases hs
    exact x_iret F rfl rfl hP hS dX7_copyFault_18
  have hs := it_f c1 hs
  refine lv_aload_n F.1 F.2.1 dX7_copyFault_8 rfl (lv_at hl 0 rfl) ?_
  refine lv_iload F.1 F.2.1 dX7_copyFault_9 (lv_at hl 4 rfl) ?_
  obtain ⟨r2, h2, hs⟩ := bn_some hs
  refine x_callI (rest := []) wv_X7_48 F hS (fun _ h => h) hS.2.1 (tX7_has l G A q hq h2) hP (x_recv (ci := 5) F hP rfl (by decide) (eC_2 G q _)) rfl hl.1 rfl ⟨Nat.le_of_ble_eq_true rfl, Nat.le_of_ble_eq_true rfl⟩ ⟨Nat.le_refl _, Nat.le_refl _⟩ (Nat.le_of_ble_eq_true rfl) dX7_copyFault_11 (fun H locs hP hS _ _ => ?_)
  refine lv_if_ne (tgt := 19) F.1 F.2.1 dX7_copyFault_14 (by decide) (fun c2 => ?_) (fun c2 => ?_)
  · have hs := it_f c2 hs
    refine lv_aload_n F.1 F.2.1 dX7_copyFault_19 rfl (lv_at hl 0 rfl) ?_
    refine lv_iload_n F.1 F.2.1 dX7_copyFault_20 rfl (lv_at hl 1 rfl) ?_
    refine lv_iload_n F.1 F.2.1 dX7_copyFault_21 rfl (lv_at hl 2 rfl) ?_
    obtain ⟨r3, h3, hs⟩ := bn_some hs
    refine x_callI (rest := []) wv_X7_52 F hS (fun _ h => h) hS.2.1 (tX7_mayUse l G A q hq h3) hP (x_recv (ci := 5) F hP rfl (by decide) (eC_2 G q _)) rfl hl.1 rfl ⟨Nat.le_of_ble_eq_true rfl, Nat.le_of_ble_eq_true rfl⟩ ⟨Nat.le_refl _, Nat.le_refl _⟩ (Nat.le_of_ble_eq_true rfl) dX7_copyFault_22 (fun H locs hP hS _ _ => ?_)
    refine lv_if_eq (tgt := 38) F.1 F.2.1 dX7_copyFault_25 (by decide) (fun c3 => ?_) (fun c3 => ?_)
    · have hs := it_t c3 hs
      refine lv_iconst (v := 4) F.1 F.2.1 dX7_copyFault_38 rfl ?_
      cases hs
      exact x_iret F rfl rfl hP hS dX7_copyFault_39
    have hs := it_f c3 hs
    refine lv_aload_n F.1 F.2.1 dX7_copyFault_28 rfl (lv_at hl 0 rfl) ?_
    refine lv_iload_n F.1 F.2.1 dX7_copyFault_29 rfl (lv_at hl 1 rfl) ?_
    refine lv_iload F.1 F.2.1 dX7_copyFault_30 (lv_at hl 4 rfl) ?_
    obtain ⟨r4, h4, hs⟩ := bn_some hs
    refine x_callI (rest := []) wv_X7_52 F hS (fun _ h => h) hS.2.1 (tX7_mayUse l G A q hq h4) hP (x_recv (ci := 5) F hP rfl (by decide) (eC_2 G q _)) rfl hl.1 rfl ⟨Nat.le_of_ble_eq_true rfl, Nat.le_of_ble_eq_true rfl⟩ ⟨Nat.le_refl _, Nat.le_refl _⟩ (Nat.le_of_ble_eq_true rfl) dX7_copyFault_32 (fun H locs hP hS _ _ => ?_)
    refine lv_if_ne (tgt := 40) F.1 F.2.1 dX7_copyFault_35 (by decide) (fun c4 => ?_) (fun c4 => ?_)
    · have hs := it_f c4 hs
      refine lv_aload_n F.1 F.2.1 dX7_copyFault_40 rfl (lv_at hl 0 rfl) ?_
      refine gC_X7_22 F hP dX7_copyFault_41 ?_
      refine lv_iload_n F.1 F.2.1 dX7_copyFault_44 rfl (lv_at hl 2 rfl) ?_
      obtain ⟨g1, hs⟩ := gd_some hs
      refine x_iald F hP (arC_52 G q) g1 dX7_copyFault_45 ?_
      refine lv_iconst (v := 1) F.1 F.2.1 dX7_copyFault_46 rfl ?_
      refine lv_icmp_ne (tgt := 61) F.1 F.2.1 dX7_copyFault_47 (by decide) (fun c5 => ?_) (fun c5 => ?_)
      · have hs := it_f c5 hs
        refine lv_bipush (v := 11) F.1 F.2.1 dX7_copyFault_61 rfl ?_
        cases hs
        exact x_iret F rfl rfl hP hS dX7_copyFault_63
      have hs := it_t c5 hs
      refine lv_aload_n F.1 F.2.1 dX7_copyFault_50 rfl (lv_at hl 0 rfl) ?_
      refine gC_X7_22 F hP dX7_copyFault_51 ?_
      refine lv_iload F.1 F.2.1 dX7_copyFault_54 (lv_at hl 4 rfl) ?_
      obtain ⟨g2, hs⟩ := gd_some hs
      refine x_iald F hP (arC_52 G q) g2 dX7_copyFault_56 ?_
      refine lv_iconst (v := 1) F.1 F.2.1 dX7_copyFault_57 rfl ?_
      refine lv_icmp_eq (tgt := 64) F.1 F.2.1 dX7_copyFault_58 (by decide) (fun c6 => ?_) (fun c6 => ?_)
      · have hs := it_t c6 hs
        refine lv_iload F.1 F.2.1 dX7_copyFault_64 (lv_at hl 6 rfl) ?_
        refine lv_if_ge (tgt := 72) F.1 F.2.1 dX7_copyFault_66 (by decide) (fun c7 => ?_) (fun c7 => ?_)
        · have hs := it_t c7 hs
          refine lv_aload_n F.1 F.2.1 dX7_copyFault_72 rfl (lv_at hl 0 rfl) ?_
          refine lv_iload_n F.1 F.2.1 dX7_copyFault_73 rfl (lv_at hl 2 rfl) ?_
          refine lv_iload_n F.1 F.2.1 dX7_copyFault_74 rfl (lv_at hl 3 rfl) ?_
          refine lv_iload F.1 F.2.1 dX7_copyFault_75 (lv_at hl 6 rfl) ?_
          obtain ⟨r5, h5, hs⟩ := bn_some hs
          refine x_callI (rest := []) wv_X7_56 F hS (fun _ h => h) hS.2.1 (tX7_hasCells l G A q hq h5) hP (x_recv (ci := 5) F hP rfl (by decide) (eC_2 G q _)) rfl hl.1 rfl ⟨Nat.le_of_ble_eq_true rfl, Nat.le_of_ble_eq_true rfl⟩ ⟨Nat.le_refl _, Nat.le_refl _⟩ (Nat.le_of_ble_eq_true rfl) dX7_copyFault_77 (fun H locs hP hS _ _ => ?_)
          refine lv_if_eq (tgt := 101) F.1 F.2.1 dX7_copyFault_80 (by decide) (fun c8 => ?_) (fun c8 => ?_)
          · have hs := it_t c8 hs
            refine lv_iconst (v := 3) F.1 F.2.1 dX7_copyFault_101 rfl ?_
            cases hs
            exact x_iret F rfl rfl hP hS dX7_copyFault_102
          have hs := it_f c8 hs
          refine lv_aload_n F.1 F.2.1 dX7_copyFault_83 rfl (lv_at hl 0 rfl) ?_
          refine lv_iload F.1 F.2.1 dX7_copyFault_84 (lv_at hl 4 rfl) ?_
          refine lv_iload F.1 F.2.1 dX7_copyFault_86 (lv_at hl 5 rfl) ?_
          refine lv_iload F.1 F.2.1 dX7_copyFault_88 (lv_at hl 6 rfl) ?_
          obtain ⟨r6, h6, hs⟩ := bn_some hs
          refine x_callI (rest := []) wv_X7_56 F hS (fun _ h => h) hS.2.1 (tX7_hasCells l G A q hq h6) hP (x_recv (ci := 5) F hP rfl (by decide) (eC_2 G q _)) rfl hl.1 rfl ⟨Nat.le_of_ble_eq_true rfl, Nat.le_of_ble_eq_true rfl⟩ ⟨Nat.le_refl _, Nat.le_refl _⟩ (Nat.le_of_ble_eq_true rfl) dX7_copyFault_90 (fun H locs hP hS _ _ => ?_)
          refine lv_if_eq (tgt := 101) F.1 F.2.1 dX7_copyFault_93 (by decide) (fun c9 => ?_) (fun c9 => ?_)
          · have hs := it_t c9 hs
            refine lv_iconst (v := 3) F.1 F.2.1 dX7_copyFault_101 rfl ?_
            cases hs
            exact x_iret F rfl rfl hP hS dX7_copyFault_102
          have hs := it_f c9 hs
          refine lv_ldc (v := 65536) F.1 F.2.1 F.2.2.2.1 (F.ws m_1_175) dX7_copyFault_96 ?_
          refine lv_goto (tgt := 102) F.1 F.2.1 dX7_copyFault_98 (by decide) ?_
          cases hs
          exact x_iret F rfl rfl hP hS dX7_copyFault_102
        have hs := it_f c7 hs
        refine lv_bipush (v := 8) F.1 F.2.1 dX7_copyFault_69 rfl ?_
        cases hs
        exact x_iret F rfl rfl hP hS dX7_copyFault_71
      have hs := it_f c6 hs
      refine lv_bipush (v := 11) F.1 F.2.1 dX7_copyFault_61 rfl ?_
      cases hs
      exact x_iret F rfl rfl hP hS dX7_copyFault_63
    have hs := it_t c4 hs
    refine lv_iconst (v := 4) F.1 F.2.1 dX7_copyFault_38 rfl ?_
    cases hs
    exact x_iret F rfl rfl hP hS dX7_copyFault_39
  have hs := it_t c2 hs
  refine lv_iconst (v := 2) F.1 F.2.1 dX7_copyFault_17 rfl ?_
  cases hs
  exact x_iret F rfl rfl hP hS dX7_copyFault_18

def pX7_write_b75 (M : St) (x1 : Int32) (x3 : Int32) (x4 : Int32) : Option St :=
  gd (inb x1 41) <|
  if M 52 (ix x1) = 1 then
    gd (inb x4 240) <|
    lt (up2 M 55 (ix x4) (x3.toInt8.toInt32)) fun M2 =>
    some M2
  else
    gd (inb x4 240) <|
    lt (up2 M 55 (ix x4) x3) fun M1 =>
    some M1
def pX7_write (M : St) (x1 : Int32) (x2 : Int32) (x3 : Int32) : Option St :=
  bn2 (pX5_lastsForWrite M) fun r1 M1 =>
  if r1 = 0 then
    some M1
  else
    gd (inb x1 41) <|
    if M1 2 5 = 0 then
      pX7_write_b75 M1 x1 x3 ((M1 54 (ix x1)) + x2)
    else
      gd (inb (M1 2 11) 20) <|
      lt (up2 M1 56 (ix (M1 2 11)) ((M1 54 (ix x1)) + x2)) fun M2 =>
      gd (inb ((M1 54 (ix x1)) + x2) 240) <|
      gd (inb (M2 2 11) 20) <|
      lt (up2 M2 57 (ix (M2 2 11)) (M2 55 (ix ((M1 54 (ix x1)) + x2)))) fun M3 =>
      lt (up2 M3 2 11 ((M3 2 11) + 1)) fun M4 =>
      lt (up2 M4 2 12 ((M4 2 12) + 1)) fun M5 =>
      pX7_write_b75 M5 x1 x3 ((M1 54 (ix x1)) + x2)
set_option maxHeartbeats 4000000 in
set_option maxRecDepth 100000 in
theorem tX7_write_b75 {G : zG} {A : Nat → Prop} {q : Nat → Nat} (hq : zQD A 58 q) {M M' : St} {x1 : Int32} {x3 : Int32} {x4 : Int32} (hs : pX7_write_b75 M x1 x3 x4 = some M') {p : Program} {l : Launch} {e : Env} {s : State} {m : MethodId} {args : Array Value} {below : List Frame} {meth : Method} {c : Code} {H : Heap} {locs : List Loc} {ls : Array Slot} (F : zFx p s m args meth c cX7_write RX7 5 none G A) (hP : (zP G.1 58 q (eC G q) M) H) (hS : va_S A s.heap H locs) (hl : lv_has ls 5 [(0, .ref (q 2)), (1, .int x1), (3, .int x3), (4, .int x4)]) : W p l e { frames := 1, cells := 0, slots := 0, locals := 20 } s m args below meth c H locs 0 0 (MQ below (va_Qv (fun (_ : Unit) => True) (fun _ U => (zP G.1 58 q (eC G q) M') U.heap) A) args s 0 0 A) (F0 m 75 ls []) := by
  rw [pX7_write_b75] at hs
  refine lv_aload_n F.1 F.2.1 dX7_write_75 rfl (lv_at hl 0 rfl) ?_
  refine gC_X7_31 F hP dX7_write_76 ?_
  refine lv_iload F.1 F.2.1 dX7_write_79 (lv_at hl 3 rfl) ?_
  refine lv_aload_n F.1 F.2.1 dX7_write_81 rfl (lv_at hl 0 rfl) ?_
  refine gC_X7_22 F hP dX7_write_82 ?_
  refine lv_iload_n F.1 F.2.1 dX7_write_85 rfl (lv_at hl 1 rfl) ?_
  obtain ⟨g1, hs⟩ := gd_some hs
  refine x_iald F hP (arC_52 G q) g1 dX7_write_86 ?_
  refine lv_iconst (v := 1) F.1 F.2.1 dX7_write_87 rfl ?_
  refine lv_icmp_ne (tgt := 96) F.1 F.2.1 dX7_write_88 (by decide) (fun c1 => ?_) (fun c1 => ?_)
  · have hs := it_f c1 hs
    refine lv_iload_n F.1 F.2.1 dX7_write_96 rfl (lv_at hl 2 rfl) ?_
    obtain ⟨g2, hs⟩ := gd_some hs
    obtain ⟨M1, eM1, hs⟩ := lt_some hs
    refine x_iast F hq hP hS (arC_55 G q) g2 eM1 dX7_write_97 (fun H locs hP hS => ?_)
    cases hs
    exact x_vret F hP hS dX7_write_98
  have hs := it_t c1 hs
  refine lv_iload_n F.1 F.2.1 dX7_write_91 rfl (lv_at hl 2 rfl) ?_
  refine lv_i2b F.1 F.2.1 dX7_write_92 rfl ?_
  refine lv_goto (tgt := 97) F.1 F.2.1 dX7_write_93 (by decide) ?_
  obtain ⟨g3, hs⟩ := gd_some hs
  obtain ⟨M2, eM2, hs⟩ := lt_some hs
  refine x_iast F hq hP hS (arC_55 G q) g3 eM2 dX7_write_97 (fun H locs hP hS => ?_)
  cases hs
  exact x_vret F hP hS dX7_write_98
set_option maxHeartbeats 4000000 in
set_option maxRecDepth 100000 in
theorem tX7_write (l : Launch) (G : zG) (A : Nat → Prop) (q : Nat → Nat) (hq : zQD A 58 q) {M M' : St} {x1 : Int32} {x2 : Int32} {x3 : Int32} (hs : pX7_write M x1 x2 x3 = some M') : zKV l yX7_write cX7_write 5 1 20 G A (zP G.1 58 q (eC G q) M) [.ref (q 2), .int x1, .int x2, .int x3] (zP G.1 58 q (eC G q) M') := by
  refine zKV_of (by decide) (Nat.le_of_ble_eq_true rfl) (fun p e s m args below meth c H ls F hH hP hl => ?_)
  have F : zFx p s m args meth c cX7_write RX7 5 none G A := F
  have hS : va_S A s.heap H [] := hH ▸ va_S.rf
  have hl : lv_has ls 5 [(0, .ref (q 2)), (1, .int x1), (2, .int x2), (3, .int x3)] := hl
  rw [pX7_write] at hs
  refine lv_aload_n F.1 F.2.1 dX7_write_0 rfl (lv_at hl 0 rfl) ?_
  refine gC_X7_12 F hP dX7_write_1 ?_
  obtain ⟨r1, M1, h1, hs⟩ := bn2_some hs
  refine x_callI (rest := []) wv_X7_75 F hS (fun _ h => h) hS.2.1 (tX5_lastsForWrite l G A q hq h1) hP (x_recv (ci := 3) F hP rfl (by decide) (eC_3 G q _)) rfl hl.1 rfl ⟨Nat.le_of_ble_eq_true rfl, Nat.le_of_ble_eq_true rfl⟩ ⟨Nat.le_refl _, Nat.le_refl _⟩ (Nat.le_of_ble_eq_true rfl) dX7_write_4 (fun H locs hP hS _ _ => ?_)
  refine lv_if_ne (tgt := 11) F.1 F.2.1 dX7_write_7 (by decide) (fun c1 => ?_) (fun c1 => ?_)
  · have hs := it_f c1 hs
    refine lv_aload_n F.1 F.2.1 dX7_write_11 rfl (lv_at hl 0 rfl) ?_
    refine gC_X7_28 F hP dX7_write_12 ?_
    refine lv_iload_n F.1 F.2.1 dX7_write_15 rfl (lv_at hl 1 rfl) ?_
    obtain ⟨g1, hs⟩ := gd_some hs
    refine x_iald F hP (arC_54 G q) g1 dX7_write_16 ?_
    refine lv_iload_n F.1 F.2.1 dX7_write_17 rfl (lv_at hl 2 rfl) ?_
    refine lv_iadd F.1 F.2.1 dX7_write_18 ?_
    refine lv_istore (lv' := [(4, .int ((M1 54 (ix x1)) + x2)), (0, .ref (q 2)), (1, .int x1), (2, .int x2), (3, .int x3)]) F.1 F.2.1 dX7_write_19 hl (by decide) rfl (fun ls hl => ?_)
    refine lv_aload_n F.1 F.2.1 dX7_write_21 rfl (lv_at hl 1 rfl) ?_
    refine gC_X7_61 F hP dX7_write_22 ?_
    refine lv_if_eq (tgt := 75) F.1 F.2.1 dX7_write_25 (by decide) (fun c2 => ?_) (fun c2 => ?_)
    · have hs := it_t c2 hs
      exact tX7_write_b75 hq hs F hP hS (lv_sub hl [1, 2, 4, 0] rfl)
    have hs := it_f c2 hs
    refine lv_aload_n F.1 F.2.1 dX7_write_28 rfl (lv_at hl 1 rfl) ?_
    refine gC_X7_34 F hP dX7_write_29 ?_
    refine lv_aload_n F.1 F.2.1 dX7_write_32 rfl (lv_at hl 1 rfl) ?_
    refine gC_X7_79 F hP dX7_write_33 ?_
    refine lv_iload F.1 F.2.1 dX7_write_36 (lv_at hl 0 rfl) ?_
    obtain ⟨g2, hs⟩ := gd_some hs
    obtain ⟨M2, eM2, hs⟩ := lt_some hs
    refine x_iast F hq hP hS (arC_56 G q) g2 eM2 dX7_write_38 (fun H locs hP hS => ?_)
    refine lv_aload_n F.1 F.2.1 dX7_write_39 rfl (lv_at hl 1 rfl) ?_
    refine gC_X7_37 F hP dX7_write_40 ?_
    refine lv_aload_n F.1 F.2.1 dX7_write_43 rfl (lv_at hl 1 rfl) ?_
    refine gC_X7_79 F hP dX7_write_44 ?_
    refine lv_aload_n F.1 F.2.1 dX7_write_47 rfl (lv_at hl 1 rfl) ?_
    refine gC_X7_31 F hP dX7_write_48 ?_
    refine lv_iload F.1 F.2.1 dX7_write_51 (lv_at hl 0 rfl) ?_
    obtain ⟨g3, hs⟩ := gd_some hs
    refine x_iald F hP (arC_55 G q) g3 dX7_write_53 ?_
    obtain ⟨g4, hs⟩ := gd_some hs
    obtain ⟨M3, eM3, hs⟩ := lt_some hs
    refine x_iast F hq hP hS (arC_57 G q) g4 eM3 dX7_write_54 (fun H locs hP hS => ?_)
    refine lv_aload_n F.1 F.2.1 dX7_write_55 rfl (lv_at hl 1 rfl) ?_
    refine lv_dup F.1 F.2.1 dX7_write_56 rfl ?_
    refine gC_X7_79 F hP dX7_write_57 ?_
    refine lv_iconst (v := 1) F.1 F.2.1 dX7_write_60 rfl ?_
    refine lv_iadd F.1 F.2.1 dX7_write_61 ?_
    obtain ⟨M4, eM4, hs⟩ := lt_some hs
    refine hC_X7_79 F hq hP hS eM4 dX7_write_62 (fun H locs hP hS => ?_)
    refine lv_aload_n F.1 F.2.1 dX7_write_65 rfl (lv_at hl 1 rfl) ?_
    refine lv_dup F.1 F.2.1 dX7_write_66 rfl ?_
    refine gC_X7_65 F hP dX7_write_67 ?_
    refine lv_iconst (v := 1) F.1 F.2.1 dX7_write_70 rfl ?_
    refine lv_iadd F.1 F.2.1 dX7_write_71 ?_
    obtain ⟨M5, eM5, hs⟩ := lt_some hs
    refine hC_X7_65 F hq hP hS eM5 dX7_write_72 (fun H locs hP hS => ?_)
    exact tX7_write_b75 hq hs F hP hS (lv_sub hl [1, 2, 4, 0] rfl)
  have hs := it_t c1 hs
  cases hs
  exact x_vret F hP hS dX7_write_10

def pJ7_rangeCheck_23922 (x0 : Int32) (x1 : Int32) (x2 : Int32) : Option Unit :=
  if x1 ≤ x2 then
    if 0 ≤ x1 then
      if x2 ≤ x0 then
        some ()
      else
        none
    else
      none
  else
    none
set_option maxHeartbeats 4000000 in
set_option maxRecDepth 100000 in
theorem tJ7_rangeCheck_23922 (l : Launch) (G : zG) (A : Nat → Prop) (P0 : Heap → Prop) {x0 : Int32} {x1 : Int32} {x2 : Int32} (hs : pJ7_rangeCheck_23922 x0 x1 x2 = some ()) : zKV l yJ7_rangeCheck_23922 cJ7_rangeCheck_23922 3 0 0 G A P0 [.int x0, .int x1, .int x2] P0 := by
  refine zKV_of (by decide) (Nat.le_of_ble_eq_true rfl) (fun p e s m args below meth c H ls F hH hP hl => ?_)
  have F : zFx p s m args meth c cJ7_rangeCheck_23922 RJ7 3 none G A := F
  have hS : va_S A s.heap H [] := hH ▸ va_S.rf
  have hl : lv_has ls 3 [(0, .int x0), (1, .int x1), (2, .int x2)] := hl
  rw [pJ7_rangeCheck_23922] at hs
  refine lv_iload_n F.1 F.2.1 dJ7_rangeCheck_23922_0 rfl (lv_at hl 1 rfl) ?_
  refine lv_iload_n F.1 F.2.1 dJ7_rangeCheck_23922_1 rfl (lv_at hl 2 rfl) ?_
  refine lv_icmp_le (tgt := 46) F.1 F.2.1 dJ7_rangeCheck_23922_2 (by decide) (fun c1 => ?_) (fun c1 => ?_)
  · have hs := it_t c1 hs
    refine lv_iload_n F.1 F.2.1 dJ7_rangeCheck_23922_46 rfl (lv_at hl 1 rfl) ?_
    refine lv_if_ge (tgt := 59) F.1 F.2.1 dJ7_rangeCheck_23922_47 (by decide) (fun c2 => ?_) (fun c2 => ?_)
    · have hs := it_t c2 hs
      refine lv_iload_n F.1 F.2.1 dJ7_rangeCheck_23922_59 rfl (lv_at hl 2 rfl) ?_
      refine lv_iload_n F.1 F.2.1 dJ7_rangeCheck_23922_60 rfl (lv_at hl 0 rfl) ?_
      refine lv_icmp_le (tgt := 73) F.1 F.2.1 dJ7_rangeCheck_23922_61 (by decide) (fun c3 => ?_) (fun c3 => ?_)
      · have hs := it_t c3 hs
        cases hs
        exact x_vret F hP hS dJ7_rangeCheck_23922_73
      have hs := it_f c3 hs
      cases hs
    have hs := it_f c2 hs
    cases hs
  have hs := it_f c1 hs
  cases hs

def pJ7_fill_fda19_b10 (a0 n0 : Nat) : Nat → St → Int32 → Int32 → Int32 → Option St
  | 0, _, _, _, _ => none
  | n + 1, M, x2, x3, x4 =>
    if x2 ≤ x4 then
      some M
    else
      gd (inb x4 n0) <|
      lt (up2 M a0 (ix x4) x3) fun M1 =>
      pJ7_fill_fda19_b10 a0 n0 n M1 x2 x3 (x4 + 1)
def pJ7_fill_fda19 (M : St) (a0 n0 : Nat) (x1 : Int32) (x2 : Int32) (x3 : Int32) : Option St :=
  bn (pJ7_rangeCheck_23922 (nI n0) x1 x2) fun u1 =>
  pJ7_fill_fda19_b10 a0 n0 LF M x2 x3 x1
set_option maxHeartbeats 4000000 in
set_option maxRecDepth 100000 in
theorem tJ7_fill_fda19_b10 (n : Nat) {G : zG} {A : Nat → Prop} {N : Nat} {ent : zEnt} {a0 n0 : Nat} {q : Nat → Nat} (har : zAR ent G.2.1.1 N a0 n0) (hq : zQD A N q) {M' : St} : ∀ {M : St} {x2 : Int32} {x3 : Int32} {x4 : Int32} (hs : pJ7_fill_fda19_b10 a0 n0 n M x2 x3 x4 = some M') {p : Program} {l : Launch} {e : Env} {s : State} {m : MethodId} {args : Array Value} {below : List Frame} {meth : Method} {c : Code} {H : Heap} {locs : List Loc} {ls : Array Slot} (F : zFx p s m args meth c cJ7_fill_fda19 RJ7 5 none G A) (hP : (zP G.1 N q (ent) M) H) (hS : va_S A s.heap H locs) (hl : lv_has ls 5 [(0, .ref (q a0)), (2, .int x2), (3, .int x3), (4, .int x4)]), W p l e { frames := 1, cells := 0, slots := 0, locals := 22 } s m args below meth c H locs 0 0 (MQ below (va_Qv (fun (_ : Unit) => True) (fun _ U => (zP G.1 N q (ent) M') U.heap) A) args s 0 0 A) (F0 m 10 ls []) := by
  induction n with
  | zero =>
    intro M x2 x3 x4 hs p l e s m args below meth c H locs ls F hP hS hl
    rw [pJ7_fill_fda19_b10] at hs
    cases hs
  | succ n ih =>
    intro M x2 x3 x4 hs p l e s m args below meth c H locs ls F hP hS hl
    rw [pJ7_fill_fda19_b10] at hs
    refine lv_iload F.1 F.2.1 dJ7_fill_fda19_10 (lv_at hl 3 rfl) ?_
    refine lv_iload_n F.1 F.2.1 dJ7_fill_fda19_12 rfl (lv_at hl 1 rfl) ?_
    refine lv_icmp_ge (tgt := 27) F.1 F.2.1 dJ7_fill_fda19_13 (by decide) (fun c1 => ?_) (fun c1 => ?_)
    · have hs := it_t c1 hs
      cases hs
      exact x_vret F hP hS dJ7_fill_fda19_27
    have hs := it_f c1 hs
    refine lv_aload_n F.1 F.2.1 dJ7_fill_fda19_16 rfl (lv_at hl 0 rfl) ?_
    refine lv_iload F.1 F.2.1 dJ7_fill_fda19_17 (lv_at hl 3 rfl) ?_
    refine lv_iload_n F.1 F.2.1 dJ7_fill_fda19_19 rfl (lv_at hl 2 rfl) ?_
    obtain ⟨g1, hs⟩ := gd_some hs
    obtain ⟨M1, eM1, hs⟩ := lt_some hs
    refine x_iast F hq hP hS har g1 eM1 dJ7_fill_fda19_20 (fun H locs hP hS => ?_)
    refine lv_iinc (v := x4 + 1) (lv' := [(4, .int (x4 + 1)), (0, .ref (q a0)), (2, .int x2), (3, .int x3)]) F.1 F.2.1 dJ7_fill_fda19_21 hl (k := 3) rfl rfl (by decide) rfl (fun ls hl => ?_)
    refine lv_goto (tgt := 10) F.1 F.2.1 dJ7_fill_fda19_24 (by decide) ?_
    exact ih hs F hP hS (lv_sub hl [1, 2, 3, 0] rfl)
set_option maxHeartbeats 4000000 in
set_option maxRecDepth 100000 in
theorem tJ7_fill_fda19 (l : Launch) (G : zG) (A : Nat → Prop) {N : Nat} {ent : zEnt} {a0 n0 : Nat} (q : Nat → Nat) (hq : zQD A N q) (har : zAR ent G.2.1.1 N a0 n0) {M M' : St} {x1 : Int32} {x2 : Int32} {x3 : Int32} (hs : pJ7_fill_fda19 M a0 n0 x1 x2 x3 = some M') : zKV l yJ7_fill_fda19 cJ7_fill_fda19 5 1 22 G A (zP G.1 N q (ent) M) [.ref (q a0), .int x1, .int x2, .int x3] (zP G.1 N q (ent) M') := by
  refine zKV_of (by decide) (Nat.le_of_ble_eq_true rfl) (fun p e s m args below meth c H ls F hH hP hl => ?_)
  have F : zFx p s m args meth c cJ7_fill_fda19 RJ7 5 none G A := F
  have hS : va_S A s.heap H [] := hH ▸ va_S.rf
  have hl : lv_has ls 5 [(0, .ref (q a0)), (1, .int x1), (2, .int x2), (3, .int x3)] := hl
  rw [pJ7_fill_fda19] at hs
  refine lv_aload_n F.1 F.2.1 dJ7_fill_fda19_0 rfl (lv_at hl 0 rfl) ?_
  refine x_alen (v := nI n0) F hP har rfl dJ7_fill_fda19_1 ?_
  refine lv_iload_n F.1 F.2.1 dJ7_fill_fda19_2 rfl (lv_at hl 1 rfl) ?_
  refine lv_iload_n F.1 F.2.1 dJ7_fill_fda19_3 rfl (lv_at hl 2 rfl) ?_
  obtain ⟨u1, h1, hs⟩ := bn_some hs
  refine x_callSV (rest := []) wv_J7_13 F hS (fun _ h => h) hS.2.1 (tJ7_rangeCheck_23922 l G A (zP G.1 N q (ent) M) h1) hP rfl hl.1 rfl ⟨Nat.le_of_ble_eq_true rfl, Nat.le_of_ble_eq_true rfl⟩ ⟨Nat.le_refl _, Nat.le_refl _⟩ (Nat.le_of_ble_eq_true rfl) dJ7_fill_fda19_4 (fun H locs hP hS _ _ => ?_)
  refine lv_iload_n F.1 F.2.1 dJ7_fill_fda19_7 rfl (lv_at hl 1 rfl) ?_
  refine lv_istore (lv' := [(4, .int x1), (0, .ref (q a0)), (1, .int x1), (2, .int x2), (3, .int x3)]) F.1 F.2.1 dJ7_fill_fda19_8 hl (by decide) rfl (fun ls hl => ?_)
  exact tJ7_fill_fda19_b10 LF har hq hs F hP hS (lv_sub hl [1, 3, 4, 0] rfl)

def pX7_add (M : St) (x1 : Int32) (x2 : Int32) (x3 : Int32) : Option St :=
  lt (up2 M 2 4 ((M 2 4) + 1)) fun M1 =>
  gd (inb (M1 2 4) 41) <|
  lt (up2 M1 51 (ix (M1 2 4)) x1) fun M2 =>
  gd (inb (M2 2 4) 41) <|
  lt (up2 M2 52 (ix (M2 2 4)) x2) fun M3 =>
  gd (inb (M3 2 4) 41) <|
  lt (up2 M3 53 (ix (M3 2 4)) x3) fun M4 =>
  gd (inb (M4 2 4) 41) <|
  lt (up2 M4 54 (ix (M4 2 4)) (M4 2 8)) fun M5 =>
  bn (pJ7_fill_fda19 M5 55 240 (M5 2 8) ((M5 2 8) + x3) 0) fun M6 =>
  lt (up2 M6 2 8 ((M6 2 8) + x3)) fun M7 =>
  some M7
set_option maxHeartbeats 4000000 in
set_option maxRecDepth 100000 in
theorem tX7_add (l : Launch) (G : zG) (A : Nat → Prop) (q : Nat → Nat) (hq : zQD A 58 q) {M M' : St} {x1 : Int32} {x2 : Int32} {x3 : Int32} (hs : pX7_add M x1 x2 x3 = some M') : zKV l yX7_add cX7_add 4 2 46 G A (zP G.1 58 q (eC G q) M) [.ref (q 2), .int x1, .int x2, .int x3] (zP G.1 58 q (eC G q) M') := by
  refine zKV_of (by decide) (Nat.le_of_ble_eq_true rfl) (fun p e s m args below meth c H ls F hH hP hl => ?_)
  have F : zFx p s m args meth c cX7_add RX7 4 none G A := F
  have hS : va_S A s.heap H [] := hH ▸ va_S.rf
  have hl : lv_has ls 4 [(0, .ref (q 2)), (1, .int x1), (2, .int x2), (3, .int x3)] := hl
  rw [pX7_add] at hs
  refine lv_aload_n F.1 F.2.1 dX7_add_0 rfl (lv_at hl 0 rfl) ?_
  refine lv_dup F.1 F.2.1 dX7_add_1 rfl ?_
  refine gC_X7_44 F hP dX7_add_2 ?_
  refine lv_iconst (v := 1) F.1 F.2.1 dX7_add_5 rfl ?_
  refine lv_iadd F.1 F.2.1 dX7_add_6 ?_
  obtain ⟨M1, eM1, hs⟩ := lt_some hs
  refine hC_X7_44 F hq hP hS eM1 dX7_add_7 (fun H locs hP hS => ?_)
  refine lv_aload_n F.1 F.2.1 dX7_add_10 rfl (lv_at hl 0 rfl) ?_
  refine gC_X7_18 F hP dX7_add_11 ?_
  refine lv_aload_n F.1 F.2.1 dX7_add_14 rfl (lv_at hl 0 rfl) ?_
  refine gC_X7_44 F hP dX7_add_15 ?_
  refine lv_iload_n F.1 F.2.1 dX7_add_18 rfl (lv_at hl 1 rfl) ?_
  obtain ⟨g1, hs⟩ := gd_some hs
  obtain ⟨M2, eM2, hs⟩ := lt_some hs
  refine x_iast F hq hP hS (arC_51 G q) g1 eM2 dX7_add_19 (fun H locs hP hS => ?_)
  refine lv_aload_n F.1 F.2.1 dX7_add_20 rfl (lv_at hl 0 rfl) ?_
  refine gC_X7_22 F hP dX7_add_21 ?_
  refine lv_aload_n F.1 F.2.1 dX7_add_24 rfl (lv_at hl 0 rfl) ?_
  refine gC_X7_44 F hP dX7_add_25 ?_
  refine lv_iload_n F.1 F.2.1 dX7_add_28 rfl (lv_at hl 2 rfl) ?_
  obtain ⟨g2, hs⟩ := gd_some hs
  obtain ⟨M3, eM3, hs⟩ := lt_some hs
  refine x_iast F hq hP hS (arC_52 G q) g2 eM3 dX7_add_29 (fun H locs hP hS => ?_)
  refine lv_aload_n F.1 F.2.1 dX7_add_30 rfl (lv_at hl 0 rfl) ?_
  refine gC_X7_25 F hP dX7_add_31 ?_
  refine lv_aload_n F.1 F.2.1 dX7_add_34 rfl (lv_at hl 0 rfl) ?_
  refine gC_X7_44 F hP dX7_add_35 ?_
  refine lv_iload_n F.1 F.2.1 dX7_add_38 rfl (lv_at hl 3 rfl) ?_
  obtain ⟨g3, hs⟩ := gd_some hs
  obtain ⟨M4, eM4, hs⟩ := lt_some hs
  refine x_iast F hq hP hS (arC_53 G q) g3 eM4 dX7_add_39 (fun H locs hP hS => ?_)
  refine lv_aload_n F.1 F.2.1 dX7_add_40 rfl (lv_at hl 0 rfl) ?_
  refine gC_X7_28 F hP dX7_add_41 ?_
  refine lv_aload_n F.1 F.2.1 dX7_add_44 rfl (lv_at hl 0 rfl) ?_
  refine gC_X7_44 F hP dX7_add_45 ?_
  refine lv_aload_n F.1 F.2.1 dX7_add_48 rfl (lv_at hl 0 rfl) ?_
  refine gC_X7_68 F hP dX7_add_49 ?_
  obtain ⟨g4, hs⟩ := gd_some hs
  obtain ⟨M5, eM5, hs⟩ := lt_some hs
  refine x_iast F hq hP hS (arC_54 G q) g4 eM5 dX7_add_52 (fun H locs hP hS => ?_)
  refine lv_aload_n F.1 F.2.1 dX7_add_53 rfl (lv_at hl 0 rfl) ?_
  refine gC_X7_31 F hP dX7_add_54 ?_
  refine lv_aload_n F.1 F.2.1 dX7_add_57 rfl (lv_at hl 0 rfl) ?_
  refine gC_X7_68 F hP dX7_add_58 ?_
  refine lv_aload_n F.1 F.2.1 dX7_add_61 rfl (lv_at hl 0 rfl) ?_
  refine gC_X7_68 F hP dX7_add_62 ?_
  refine lv_iload_n F.1 F.2.1 dX7_add_65 rfl (lv_at hl 3 rfl) ?_
  refine lv_iadd F.1 F.2.1 dX7_add_66 ?_
  refine lv_iconst (v := 0) F.1 F.2.1 dX7_add_67 rfl ?_
  obtain ⟨M6, h1, hs⟩ := bn_some hs
  refine x_callSV (rest := []) wv_X7_88 F hS (fun _ h => h) hS.2.1 (tJ7_fill_fda19 l G A q hq (arC_55 G q) h1) hP rfl hl.1 rfl ⟨Nat.le_of_ble_eq_true rfl, Nat.le_of_ble_eq_true rfl⟩ ⟨Nat.le_refl _, Nat.le_refl _⟩ (Nat.le_of_ble_eq_true rfl) dX7_add_68 (fun H locs hP hS _ _ => ?_)
  refine lv_aload_n F.1 F.2.1 dX7_add_71 rfl (lv_at hl 0 rfl) ?_
  refine lv_dup F.1 F.2.1 dX7_add_72 rfl ?_
  refine gC_X7_68 F hP dX7_add_73 ?_
  refine lv_iload_n F.1 F.2.1 dX7_add_76 rfl (lv_at hl 3 rfl) ?_
  refine lv_iadd F.1 F.2.1 dX7_add_77 ?_
  obtain ⟨M7, eM7, hs⟩ := lt_some hs
  refine hC_X7_68 F hq hP hS eM7 dX7_add_78 (fun H locs hP hS => ?_)
  cases hs
  exact x_vret F hP hS dX7_add_81

def pX7_make (M : St) (x1 : Int32) (x2 : Int32) (x3 : Int32) : Option (Int32 × St) :=
  bn2 (pX5_lastsForWrite M) fun r1 M1 =>
  if r1 = 0 then
    some (0, M1)
  else
    if M1 2 5 = 0 then
      bn (pX7_add M1 x1 x2 x3) fun M2 =>
      some (M2 2 4, M2)
    else
      lt (up2 M1 2 12 ((M1 2 12) + 1)) fun M3 =>
      bn (pX7_add M3 x1 x2 x3) fun M4 =>
      some (M4 2 4, M4)
set_option maxHeartbeats 4000000 in
set_option maxRecDepth 100000 in
theorem tX7_make (l : Launch) (G : zG) (A : Nat → Prop) (q : Nat → Nat) (hq : zQD A 58 q) {M M' : St} {r : Int32} {x1 : Int32} {x2 : Int32} {x3 : Int32} (hs : pX7_make M x1 x2 x3 = some (r, M')) : zKI l yX7_make cX7_make 4 (some .int) 3 69 G A (zP G.1 58 q (eC G q) M) [.ref (q 2), .int x1, .int x2, .int x3] r (zP G.1 58 q (eC G q) M') := by
  refine zKI_of (by decide) (Nat.le_of_ble_eq_true rfl) (fun p e s m args below meth c H ls F hH hP hl => ?_)
  have F : zFx p s m args meth c cX7_make RX7 4 (some .int) G A := F
  have hS : va_S A s.heap H [] := hH ▸ va_S.rf
  have hl : lv_has ls 4 [(0, .ref (q 2)), (1, .int x1), (2, .int x2), (3, .int x3)] := hl
  rw [pX7_make] at hs
  refine lv_aload_n F.1 F.2.1 dX7_make_0 rfl (lv_at hl 0 rfl) ?_
  refine gC_X7_12 F hP dX7_make_1 ?_
  obtain ⟨r1, M1, h1, hs⟩ := bn2_some hs
  refine x_callI (rest := []) wv_X7_75 F hS (fun _ h => h) hS.2.1 (tX5_lastsForWrite l G A q hq h1) hP (x_recv (ci := 3) F hP rfl (by decide) (eC_3 G q _)) rfl hl.1 rfl ⟨Nat.le_of_ble_eq_true rfl, Nat.le_of_ble_eq_true rfl⟩ ⟨Nat.le_refl _, Nat.le_refl _⟩ (Nat.le_of_ble_eq_true rfl) dX7_make_4 (fun H locs hP hS _ _ => ?_)
  refine lv_if_ne (tgt := 12) F.1 F.2.1 dX7_make_7 (by decide) (fun c1 => ?_) (fun c1 => ?_)
  · have hs := it_f c1 hs
    refine lv_aload_n F.1 F.2.1 dX7_make_12 rfl (lv_at hl 0 rfl) ?_
    refine gC_X7_61 F hP dX7_make_13 ?_
    refine lv_if_eq (tgt := 29) F.1 F.2.1 dX7_make_16 (by decide) (fun c2 => ?_) (fun c2 => ?_)
    · have hs := it_t c2 hs
      refine lv_aload_n F.1 F.2.1 dX7_make_29 rfl (lv_at hl 0 rfl) ?_
      refine lv_iload_n F.1 F.2.1 dX7_make_30 rfl (lv_at hl 1 rfl) ?_
      refine lv_iload_n F.1 F.2.1 dX7_make_31 rfl (lv_at hl 2 rfl) ?_
      refine lv_iload_n F.1 F.2.1 dX7_make_32 rfl (lv_at hl 3 rfl) ?_
      obtain ⟨M2, h2, hs⟩ := bn_some hs
      refine x_callV (rest := []) wv_X7_40 F hS (fun _ h => h) hS.2.1 (tX7_add l G A q hq h2) hP (x_recv (ci := 5) F hP rfl (by decide) (eC_2 G q _)) rfl hl.1 rfl ⟨Nat.le_of_ble_eq_true rfl, Nat.le_of_ble_eq_true rfl⟩ ⟨Nat.le_refl _, Nat.le_refl _⟩ (Nat.le_of_ble_eq_true rfl) dX7_make_33 (fun H locs hP hS _ _ => ?_)
      refine lv_aload_n F.1 F.2.1 dX7_make_36 rfl (lv_at hl 0 rfl) ?_
      refine gC_X7_44 F hP dX7_make_37 ?_
      cases hs
      exact x_iret F rfl rfl hP hS dX7_make_40
    have hs := it_f c2 hs
    refine lv_aload_n F.1 F.2.1 dX7_make_19 rfl (lv_at hl 0 rfl) ?_
    refine lv_dup F.1 F.2.1 dX7_make_20 rfl ?_
    refine gC_X7_65 F hP dX7_make_21 ?_
    refine lv_iconst (v := 1) F.1 F.2.1 dX7_make_24 rfl ?_
    refine lv_iadd F.1 F.2.1 dX7_make_25 ?_
    obtain ⟨M3, eM3, hs⟩ := lt_some hs
    refine hC_X7_65 F hq hP hS eM3 dX7_make_26 (fun H locs hP hS => ?_)
    refine lv_aload_n F.1 F.2.1 dX7_make_29 rfl (lv_at hl 0 rfl) ?_
    refine lv_iload_n F.1 F.2.1 dX7_make_30 rfl (lv_at hl 1 rfl) ?_
    refine lv_iload_n F.1 F.2.1 dX7_make_31 rfl (lv_at hl 2 rfl) ?_
    refine lv_iload_n F.1 F.2.1 dX7_make_32 rfl (lv_at hl 3 rfl) ?_
    obtain ⟨M4, h3, hs⟩ := bn_some hs
    refine x_callV (rest := []) wv_X7_40 F hS (fun _ h => h) hS.2.1 (tX7_add l G A q hq h3) hP (x_recv (ci := 5) F hP rfl (by decide) (eC_2 G q _)) rfl hl.1 rfl ⟨Nat.le_of_ble_eq_true rfl, Nat.le_of_ble_eq_true rfl⟩ ⟨Nat.le_refl _, Nat.le_refl _⟩ (Nat.le_of_ble_eq_true rfl) dX7_make_33 (fun H locs hP hS _ _ => ?_)
    refine lv_aload_n F.1 F.2.1 dX7_make_36 rfl (lv_at hl 0 rfl) ?_
    refine gC_X7_44 F hP dX7_make_37 ?_
    cases hs
    exact x_iret F rfl rfl hP hS dX7_make_40
  have hs := it_t c1 hs
  refine lv_iconst (v := 0) F.1 F.2.1 dX7_make_10 rfl ?_
  cases hs
  exact x_iret F rfl rfl hP hS dX7_make_11

def pX7_copy_b24 : Nat → St → Int32 → Int32 → Int32 → Int32 → Option St
  | 0, _, _, _, _, _ => none
  | n + 1, M, x5, x6, x7, x8 =>
    if x5 ≤ x8 then
      some M
    else
      bn2 (pX5_lastsForWrite M) fun r1 M1 =>
      if r1 = 0 then
        some M1
      else
        gd (inb (x6 + x8) 240) <|
        gd (inb (x7 + x8) 240) <|
        lt (up2 M1 55 (ix (x7 + x8)) (M1 55 (ix (x6 + x8)))) fun M2 =>
        pX7_copy_b24 n M2 x5 x6 x7 (x8 + 1)
def pX7_copy (M : St) (x1 : Int32) (x2 : Int32) (x3 : Int32) (x4 : Int32) (x5 : Int32) : Option St :=
  gd (inb x1 41) <|
  gd (inb x3 41) <|
  pX7_copy_b24 LF M x5 ((M 54 (ix x1)) + x2) ((M 54 (ix x3)) + x4) 0
set_option maxHeartbeats 4000000 in
set_option maxRecDepth 100000 in
theorem tX7_copy_b24 (n : Nat) {G : zG} {A : Nat → Prop} {q : Nat → Nat} (hq : zQD A 58 q) {M' : St} : ∀ {M : St} {x5 : Int32} {x6 : Int32} {x7 : Int32} {x8 : Int32} (hs : pX7_copy_b24 n M x5 x6 x7 x8 = some M') {p : Program} {l : Launch} {e : Env} {s : State} {m : MethodId} {args : Array Value} {below : List Frame} {meth : Method} {c : Code} {H : Heap} {locs : List Loc} {ls : Array Slot} (F : zFx p s m args meth c cX7_copy RX7 9 none G A) (hP : (zP G.1 58 q (eC G q) M) H) (hS : va_S A s.heap H locs) (hl : lv_has ls 9 [(0, .ref (q 2)), (5, .int x5), (6, .int x6), (7, .int x7), (8, .int x8)]), W p l e { frames := 1, cells := 0, slots := 0, locals := 20 } s m args below meth c H locs 0 0 (MQ below (va_Qv (fun (_ : Unit) => True) (fun _ U => (zP G.1 58 q (eC G q) M') U.heap) A) args s 0 0 A) (F0 m 24 ls []) := by
  induction n with
  | zero =>
    intro M x5 x6 x7 x8 hs p l e s m args below meth c H locs ls F hP hS hl
    rw [pX7_copy_b24] at hs
    cases hs
  | succ n ih =>
    intro M x5 x6 x7 x8 hs p l e s m args below meth c H locs ls F hP hS hl
    rw [pX7_copy_b24] at hs
    refine lv_iload F.1 F.2.1 dX7_copy_24 (lv_at hl 4 rfl) ?_
    refine lv_iload F.1 F.2.1 dX7_copy_26 (lv_at hl 1 rfl) ?_
    refine lv_icmp_ge (tgt := 67) F.1 F.2.1 dX7_copy_28 (by decide) (fun c1 => ?_) (fun c1 => ?_)
    · have hs := it_t c1 hs
      cases hs
      exact x_vret F hP hS dX7_copy_67
    have hs := it_f c1 hs
    refine lv_aload_n F.1 F.2.1 dX7_copy_31 rfl (lv_at hl 0 rfl) ?_
    refine gC_X7_12 F hP dX7_copy_32 ?_
    obtain ⟨r1, M1, h1, hs⟩ := bn2_some hs
    refine x_callI (rest := []) wv_X7_75 F hS (fun _ h => h) hS.2.1 (tX5_lastsForWrite l G A q hq h1) hP (x_recv (ci := 3) F hP rfl (by decide) (eC_3 G q _)) rfl hl.1 rfl ⟨Nat.le_of_ble_eq_true rfl, Nat.le_of_ble_eq_true rfl⟩ ⟨Nat.le_refl _, Nat.le_refl _⟩ (Nat.le_of_ble_eq_true rfl) dX7_copy_35 (fun H locs hP hS _ _ => ?_)
    refine lv_if_eq (tgt := 67) F.1 F.2.1 dX7_copy_38 (by decide) (fun c2 => ?_) (fun c2 => ?_)
    · have hs := it_t c2 hs
      cases hs
      exact x_vret F hP hS dX7_copy_67
    have hs := it_f c2 hs
    refine lv_aload_n F.1 F.2.1 dX7_copy_41 rfl (lv_at hl 0 rfl) ?_
    refine gC_X7_31 F hP dX7_copy_42 ?_
    refine lv_iload F.1 F.2.1 dX7_copy_45 (lv_at hl 3 rfl) ?_
    refine lv_iload F.1 F.2.1 dX7_copy_47 (lv_at hl 4 rfl) ?_
    refine lv_iadd F.1 F.2.1 dX7_copy_49 ?_
    refine lv_aload_n F.1 F.2.1 dX7_copy_50 rfl (lv_at hl 0 rfl) ?_
    refine gC_X7_31 F hP dX7_copy_51 ?_
    refine lv_iload F.1 F.2.1 dX7_copy_54 (lv_at hl 2 rfl) ?_
    refine lv_iload F.1 F.2.1 dX7_copy_56 (lv_at hl 4 rfl) ?_
    refine lv_iadd F.1 F.2.1 dX7_copy_58 ?_
    obtain ⟨g1, hs⟩ := gd_some hs
    refine x_iald F hP (arC_55 G q) g1 dX7_copy_59 ?_
    obtain ⟨g2, hs⟩ := gd_some hs
    obtain ⟨M2, eM2, hs⟩ := lt_some hs
    refine x_iast F hq hP hS (arC_55 G q) g2 eM2 dX7_copy_60 (fun H locs hP hS => ?_)
    refine lv_iinc (v := x8 + 1) (lv' := [(8, .int (x8 + 1)), (0, .ref (q 2)), (5, .int x5), (6, .int x6), (7, .int x7)]) F.1 F.2.1 dX7_copy_61 hl (k := 4) rfl rfl (by decide) rfl (fun ls hl => ?_)
    refine lv_goto (tgt := 24) F.1 F.2.1 dX7_copy_64 (by decide) ?_
    exact ih hs F hP hS (lv_sub hl [1, 2, 3, 4, 0] rfl)
set_option maxHeartbeats 4000000 in
set_option maxRecDepth 100000 in
theorem tX7_copy (l : Launch) (G : zG) (A : Nat → Prop) (q : Nat → Nat) (hq : zQD A 58 q) {M M' : St} {x1 : Int32} {x2 : Int32} {x3 : Int32} {x4 : Int32} {x5 : Int32} (hs : pX7_copy M x1 x2 x3 x4 x5 = some M') : zKV l yX7_copy cX7_copy 9 1 20 G A (zP G.1 58 q (eC G q) M) [.ref (q 2), .int x1, .int x2, .int x3, .int x4, .int x5] (zP G.1 58 q (eC G q) M') := by
  refine zKV_of (by decide) (Nat.le_of_ble_eq_true rfl) (fun p e s m args below meth c H ls F hH hP hl => ?_)
  have F : zFx p s m args meth c cX7_copy RX7 9 none G A := F
  have hS : va_S A s.heap H [] := hH ▸ va_S.rf
  have hl : lv_has ls 9 [(0, .ref (q 2)), (1, .int x1), (2, .int x2), (3, .int x3), (4, .int x4), (5, .int x5)] := hl
  rw [pX7_copy] at hs
  refine lv_aload_n F.1 F.2.1 dX7_copy_0 rfl (lv_at hl 0 rfl) ?_
  refine gC_X7_28 F hP dX7_copy_1 ?_
  refine lv_iload_n F.1 F.2.1 dX7_copy_4 rfl (lv_at hl 1 rfl) ?_
  obtain ⟨g1, hs⟩ := gd_some hs
  refine x_iald F hP (arC_54 G q) g1 dX7_copy_5 ?_
  refine lv_iload_n F.1 F.2.1 dX7_copy_6 rfl (lv_at hl 2 rfl) ?_
  refine lv_iadd F.1 F.2.1 dX7_copy_7 ?_
  refine lv_istore (lv' := [(6, .int ((M 54 (ix x1)) + x2)), (0, .ref (q 2)), (1, .int x1), (2, .int x2), (3, .int x3), (4, .int x4), (5, .int x5)]) F.1 F.2.1 dX7_copy_8 hl (by decide) rfl (fun ls hl => ?_)
  refine lv_aload_n F.1 F.2.1 dX7_copy_10 rfl (lv_at hl 1 rfl) ?_
  refine gC_X7_28 F hP dX7_copy_11 ?_
  refine lv_iload_n F.1 F.2.1 dX7_copy_14 rfl (lv_at hl 4 rfl) ?_
  obtain ⟨g2, hs⟩ := gd_some hs
  refine x_iald F hP (arC_54 G q) g2 dX7_copy_15 ?_
  refine lv_iload F.1 F.2.1 dX7_copy_16 (lv_at hl 5 rfl) ?_
  refine lv_iadd F.1 F.2.1 dX7_copy_18 ?_
  refine lv_istore (lv' := [(7, .int ((M 54 (ix x3)) + x4)), (6, .int ((M 54 (ix x1)) + x2)), (0, .ref (q 2)), (1, .int x1), (2, .int x2), (3, .int x3), (4, .int x4), (5, .int x5)]) F.1 F.2.1 dX7_copy_19 hl (by decide) rfl (fun ls hl => ?_)
  refine lv_iconst (v := 0) F.1 F.2.1 dX7_copy_21 rfl ?_
  refine lv_istore (lv' := [(8, .int 0), (7, .int ((M 54 (ix x3)) + x4)), (6, .int ((M 54 (ix x1)) + x2)), (0, .ref (q 2)), (1, .int x1), (2, .int x2), (3, .int x3), (4, .int x4), (5, .int x5)]) F.1 F.2.1 dX7_copy_22 hl (by decide) rfl (fun ls hl => ?_)
  exact tX7_copy_b24 LF hq hs F hP hS (lv_sub hl [3, 8, 2, 1, 0] rfl)

def pX7_begin (M : St) : Option St :=
  lt (up2 M 2 5 1) fun M1 =>
  lt (up2 M1 2 12 0) fun M2 =>
  lt (up2 M2 2 11 0) fun M3 =>
  lt (up2 M3 2 13 (M3 2 4)) fun M4 =>
  lt (up2 M4 2 14 (M4 2 8)) fun M5 =>
  some M5
set_option maxHeartbeats 4000000 in
set_option maxRecDepth 100000 in
theorem tX7_begin (l : Launch) (G : zG) (A : Nat → Prop) (q : Nat → Nat) (hq : zQD A 58 q) {M M' : St} (hs : pX7_begin M = some M') : zKV l yX7_begin cX7_begin 1 0 0 G A (zP G.1 58 q (eC G q) M) [.ref (q 2)] (zP G.1 58 q (eC G q) M') := by
  refine zKV_of (by decide) (Nat.le_of_ble_eq_true rfl) (fun p e s m args below meth c H ls F hH hP hl => ?_)
  have F : zFx p s m args meth c cX7_begin RX7 1 none G A := F
  have hS : va_S A s.heap H [] := hH ▸ va_S.rf
  have hl : lv_has ls 1 [(0, .ref (q 2))] := hl
  rw [pX7_begin] at hs
  refine lv_aload_n F.1 F.2.1 dX7_begin_0 rfl (lv_at hl 0 rfl) ?_
  refine lv_iconst (v := 1) F.1 F.2.1 dX7_begin_1 rfl ?_
  obtain ⟨M1, eM1, hs⟩ := lt_some hs
  refine hC_X7_61 rfl F hq hP hS eM1 dX7_begin_2 (fun H locs hP hS => ?_)
  refine lv_aload_n F.1 F.2.1 dX7_begin_5 rfl (lv_at hl 0 rfl) ?_
  refine lv_iconst (v := 0) F.1 F.2.1 dX7_begin_6 rfl ?_
  obtain ⟨M2, eM2, hs⟩ := lt_some hs
  refine hC_X7_65 F hq hP hS eM2 dX7_begin_7 (fun H locs hP hS => ?_)
  refine lv_aload_n F.1 F.2.1 dX7_begin_10 rfl (lv_at hl 0 rfl) ?_
  refine lv_iconst (v := 0) F.1 F.2.1 dX7_begin_11 rfl ?_
  obtain ⟨M3, eM3, hs⟩ := lt_some hs
  refine hC_X7_79 F hq hP hS eM3 dX7_begin_12 (fun H locs hP hS => ?_)
  refine lv_aload_n F.1 F.2.1 dX7_begin_15 rfl (lv_at hl 0 rfl) ?_
  refine lv_aload_n F.1 F.2.1 dX7_begin_16 rfl (lv_at hl 0 rfl) ?_
  refine gC_X7_44 F hP dX7_begin_17 ?_
  obtain ⟨M4, eM4, hs⟩ := lt_some hs
  refine hC_X7_82 F hq hP hS eM4 dX7_begin_20 (fun H locs hP hS => ?_)
  refine lv_aload_n F.1 F.2.1 dX7_begin_23 rfl (lv_at hl 0 rfl) ?_
  refine lv_aload_n F.1 F.2.1 dX7_begin_24 rfl (lv_at hl 0 rfl) ?_
  refine gC_X7_68 F hP dX7_begin_25 ?_
  obtain ⟨M5, eM5, hs⟩ := lt_some hs
  refine hC_X7_85 F hq hP hS eM5 dX7_begin_28 (fun H locs hP hS => ?_)
  cases hs
  exact x_vret F hP hS dX7_begin_31

def pX7_close (M : St) : Option St :=
  bn2 (pX5_lastsForWrite M) fun r1 M1 =>
  if r1 = 0 then
    some M1
  else
    lt (up2 M1 2 5 0) fun M2 =>
    some M2
set_option maxHeartbeats 4000000 in
set_option maxRecDepth 100000 in
theorem tX7_close (l : Launch) (G : zG) (A : Nat → Prop) (q : Nat → Nat) (hq : zQD A 58 q) {M M' : St} (hs : pX7_close M = some M') : zKV l yX7_close cX7_close 1 1 20 G A (zP G.1 58 q (eC G q) M) [.ref (q 2)] (zP G.1 58 q (eC G q) M') := by
  refine zKV_of (by decide) (Nat.le_of_ble_eq_true rfl) (fun p e s m args below meth c H ls F hH hP hl => ?_)
  have F : zFx p s m args meth c cX7_close RX7 1 none G A := F
  have hS : va_S A s.heap H [] := hH ▸ va_S.rf
  have hl : lv_has ls 1 [(0, .ref (q 2))] := hl
  rw [pX7_close] at hs
  refine lv_aload_n F.1 F.2.1 dX7_close_0 rfl (lv_at hl 0 rfl) ?_
  refine gC_X7_12 F hP dX7_close_1 ?_
  obtain ⟨r1, M1, h1, hs⟩ := bn2_some hs
  refine x_callI (rest := []) wv_X7_75 F hS (fun _ h => h) hS.2.1 (tX5_lastsForWrite l G A q hq h1) hP (x_recv (ci := 3) F hP rfl (by decide) (eC_3 G q _)) rfl hl.1 rfl ⟨Nat.le_of_ble_eq_true rfl, Nat.le_of_ble_eq_true rfl⟩ ⟨Nat.le_refl _, Nat.le_refl _⟩ (Nat.le_of_ble_eq_true rfl) dX7_close_4 (fun H locs hP hS _ _ => ?_)
  refine lv_if_eq (tgt := 15) F.1 F.2.1 dX7_close_7 (by decide) (fun c1 => ?_) (fun c1 => ?_)
  · have hs := it_t c1 hs
    cases hs
    exact x_vret F hP hS dX7_close_15
  have hs := it_f c1 hs
  refine lv_aload_n F.1 F.2.1 dX7_close_10 rfl (lv_at hl 0 rfl) ?_
  refine lv_iconst (v := 0) F.1 F.2.1 dX7_close_11 rfl ?_
  obtain ⟨M2, eM2, hs⟩ := lt_some hs
  refine hC_X7_61 rfl F hq hP hS eM2 dX7_close_12 (fun H locs hP hS => ?_)
  cases hs
  exact x_vret F hP hS dX7_close_15

def pX7_undo_b16 : Nat → St → Int32 → Option (Int32 × St)
  | 0, _, _ => none
  | n + 1, M, x1 =>
    if x1 < 0 then
      lt (up2 M 2 4 (M 2 13)) fun M1 =>
      lt (up2 M1 2 8 (M1 2 14)) fun M2 =>
      lt (up2 M2 2 5 0) fun M3 =>
      some (1, M3)
    else
      gd (inb x1 20) <|
      gd (inb x1 20) <|
      gd (inb (M 56 (ix x1)) 240) <|
      lt (up2 M 55 (ix (M 56 (ix x1))) (M 57 (ix x1))) fun M4 =>
      pX7_undo_b16 n M4 (x1 + (-1))
def pX7_undo (M : St) : Option (Int32 × St) :=
  if M 2 5 = 0 then
    some (0, M)
  else
    pX7_undo_b16 LF M ((M 2 11) - 1)
set_option maxHeartbeats 4000000 in
set_option maxRecDepth 100000 in
theorem tX7_undo_b16 (n : Nat) {G : zG} {A : Nat → Prop} {q : Nat → Nat} (hq : zQD A 58 q) {M' : St} {r : Int32} : ∀ {M : St} {x1 : Int32} (hs : pX7_undo_b16 n M x1 = some (r, M')) {p : Program} {l : Launch} {e : Env} {s : State} {m : MethodId} {args : Array Value} {below : List Frame} {meth : Method} {c : Code} {H : Heap} {locs : List Loc} {ls : Array Slot} (F : zFx p s m args meth c cX7_undo RX7 2 (some .boolean) G A) (hP : (zP G.1 58 q (eC G q) M) H) (hS : va_S A s.heap H locs) (hl : lv_has ls 2 [(0, .ref (q 2)), (1, .int x1)]), W p l e { frames := 0, cells := 0, slots := 0, locals := 0 } s m args below meth c H locs 0 0 (MQ below (va_Qi (fun (r' : Int32) (_ : Unit) => r' = r) (fun _ U => (zP G.1 58 q (eC G q) M') U.heap) A) args s 0 0 A) (F0 m 16 ls []) := by
  induction n with
  | zero =>
    intro M x1 hs p l e s m args below meth c H locs ls F hP hS hl
    rw [pX7_undo_b16] at hs
    cases hs
  | succ n ih =>
    intro M x1 hs p l e s m args below meth c H locs ls F hP hS hl
    rw [pX7_undo_b16] at hs
    refine lv_iload_n F.1 F.2.1 dX7_undo_16 rfl (lv_at hl 1 rfl) ?_
    refine lv_if_lt (tgt := 43) F.1 F.2.1 dX7_undo_17 (by decide) (fun c1 => ?_) (fun c1 => ?_)
    · have hs := it_t c1 hs
      refine lv_aload_n F.1 F.2.1 dX7_undo_43 rfl (lv_at hl 0 rfl) ?_
      refine lv_aload_n F.1 F.2.1 dX7_undo_44 rfl (lv_at hl 0 rfl) ?_
      refine gC_X7_82 F hP dX7_undo_45 ?_
      obtain ⟨M1, eM1, hs⟩ := lt_some hs
      refine hC_X7_44 F hq hP hS eM1 dX7_undo_48 (fun H locs hP hS => ?_)
      refine lv_aload_n F.1 F.2.1 dX7_undo_51 rfl (lv_at hl 0 rfl) ?_
      refine lv_aload_n F.1 F.2.1 dX7_undo_52 rfl (lv_at hl 0 rfl) ?_
      refine gC_X7_85 F hP dX7_undo_53 ?_
      obtain ⟨M2, eM2, hs⟩ := lt_some hs
      refine hC_X7_68 F hq hP hS eM2 dX7_undo_56 (fun H locs hP hS => ?_)
      refine lv_aload_n F.1 F.2.1 dX7_undo_59 rfl (lv_at hl 0 rfl) ?_
      refine lv_iconst (v := 0) F.1 F.2.1 dX7_undo_60 rfl ?_
      obtain ⟨M3, eM3, hs⟩ := lt_some hs
      refine hC_X7_61 rfl F hq hP hS eM3 dX7_undo_61 (fun H locs hP hS => ?_)
      refine lv_iconst (v := 1) F.1 F.2.1 dX7_undo_64 rfl ?_
      cases hs
      exact x_iret F rfl rfl hP hS dX7_undo_65
    have hs := it_f c1 hs
    refine lv_aload_n F.1 F.2.1 dX7_undo_20 rfl (lv_at hl 0 rfl) ?_
    refine gC_X7_31 F hP dX7_undo_21 ?_
    refine lv_aload_n F.1 F.2.1 dX7_undo_24 rfl (lv_at hl 0 rfl) ?_
    refine gC_X7_34 F hP dX7_undo_25 ?_
    refine lv_iload_n F.1 F.2.1 dX7_undo_28 rfl (lv_at hl 1 rfl) ?_
    obtain ⟨g1, hs⟩ := gd_some hs
    refine x_iald F hP (arC_56 G q) g1 dX7_undo_29 ?_
    refine lv_aload_n F.1 F.2.1 dX7_undo_30 rfl (lv_at hl 0 rfl) ?_
    refine gC_X7_37 F hP dX7_undo_31 ?_
    refine lv_iload_n F.1 F.2.1 dX7_undo_34 rfl (lv_at hl 1 rfl) ?_
    obtain ⟨g2, hs⟩ := gd_some hs
    refine x_iald F hP (arC_57 G q) g2 dX7_undo_35 ?_
    obtain ⟨g3, hs⟩ := gd_some hs
    obtain ⟨M4, eM4, hs⟩ := lt_some hs
    refine x_iast F hq hP hS (arC_55 G q) g3 eM4 dX7_undo_36 (fun H locs hP hS => ?_)
    refine lv_iinc (v := x1 + (-1)) (lv' := [(1, .int (x1 + (-1))), (0, .ref (q 2))]) F.1 F.2.1 dX7_undo_37 hl (k := 1) rfl rfl (by decide) rfl (fun ls hl => ?_)
    refine lv_goto (tgt := 16) F.1 F.2.1 dX7_undo_40 (by decide) ?_
    exact ih hs F hP hS (lv_sub hl [1, 0] rfl)
set_option maxHeartbeats 4000000 in
set_option maxRecDepth 100000 in
theorem tX7_undo (l : Launch) (G : zG) (A : Nat → Prop) (q : Nat → Nat) (hq : zQD A 58 q) {M M' : St} {r : Int32} (hs : pX7_undo M = some (r, M')) : zKI l yX7_undo cX7_undo 2 (some .boolean) 0 0 G A (zP G.1 58 q (eC G q) M) [.ref (q 2)] r (zP G.1 58 q (eC G q) M') := by
  refine zKI_of (by decide) (Nat.le_of_ble_eq_true rfl) (fun p e s m args below meth c H ls F hH hP hl => ?_)
  have F : zFx p s m args meth c cX7_undo RX7 2 (some .boolean) G A := F
  have hS : va_S A s.heap H [] := hH ▸ va_S.rf
  have hl : lv_has ls 2 [(0, .ref (q 2))] := hl
  rw [pX7_undo] at hs
  refine lv_aload_n F.1 F.2.1 dX7_undo_0 rfl (lv_at hl 0 rfl) ?_
  refine gC_X7_61 F hP dX7_undo_1 ?_
  refine lv_if_ne (tgt := 9) F.1 F.2.1 dX7_undo_4 (by decide) (fun c1 => ?_) (fun c1 => ?_)
  · have hs := it_f c1 hs
    refine lv_aload_n F.1 F.2.1 dX7_undo_9 rfl (lv_at hl 0 rfl) ?_
    refine gC_X7_79 F hP dX7_undo_10 ?_
    refine lv_iconst (v := 1) F.1 F.2.1 dX7_undo_13 rfl ?_
    refine lv_isub F.1 F.2.1 dX7_undo_14 ?_
    refine lv_istore_n (lv' := [(1, .int ((M 2 11) - 1)), (0, .ref (q 2))]) F.1 F.2.1 dX7_undo_15 rfl hl (by decide) rfl (fun ls hl => ?_)
    exact tX7_undo_b16 LF hq hs F hP hS (lv_sub hl [1, 0] rfl)
  have hs := it_t c1 hs
  refine lv_iconst (v := 0) F.1 F.2.1 dX7_undo_7 rfl ?_
  cases hs
  exact x_iret F rfl rfl hP hS dX7_undo_8
