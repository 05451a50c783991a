def pX6_enter (M : St) (w1 : Nat) : Option St :=
  ic (M 1 9) 8 fun k1 =>
  lt (up2 M 1 10 (nI k1)) fun M1 =>
  lt (up2 M1 1 9 ((M1 1 9) + 1)) fun M2 =>
  ic (M2 1 10) 8 fun k2 =>
  bn (pX2_begin M2 k2 w1) fun M3 =>
  some M3
set_option maxHeartbeats 4000000 in
set_option maxRecDepth 100000 in
theorem tX6_enter (l : Launch) (G : zG) (A : Nat → Prop) (q : Nat → Nat) (hq : zQD A 58 q) {M M' : St} {w1 : Nat} (hw1 : w1 < 16) (hs : pX6_enter M w1 = some M') : zKV l yX6_enter cX6_enter 2 2 44 G A (zP G.1 58 q (eC G q) M) [.ref (q 1), .ref (q (6 + w1))] (zP G.1 58 q (eC G q) M') := by
  refine zKV_of (by decide) (Nat.le_of_ble_eq_true rfl) (fun p e s m args below meth c H ls F hH hP hl => ?_)
  have F : zFx p s m args meth c cX6_enter RX6 2 none G A := F
  have hS : va_S A s.heap H [] := hH ▸ va_S.rf
  have hl : lv_has ls 2 [(0, .ref (q 1)), (1, .ref (q (6 + w1)))] := hl
  rw [pX6_enter] at hs
  refine lv_aload_n F.1 F.2.1 dX6_enter_0 rfl (lv_at hl 0 rfl) ?_
  refine lv_aload_n F.1 F.2.1 dX6_enter_1 rfl (lv_at hl 0 rfl) ?_
  refine gC_X6_40 F hP dX6_enter_2 ?_
  refine lv_aload_n F.1 F.2.1 dX6_enter_5 rfl (lv_at hl 0 rfl) ?_
  refine gC_X6_92 F hP dX6_enter_6 ?_
  obtain ⟨k1, hik1, hxk1, hk1, hs⟩ := ic_some hs
  refine x_aaldF hxk1 F hP (aqC_F G q) hik1 dX6_enter_9 ?_
  obtain ⟨M1, eM1, hs⟩ := lt_some hs
  refine hC_X6_99 hk1 F hq hP hS eM1 dX6_enter_10 (fun H locs hP hS => ?_)
  refine lv_aload_n F.1 F.2.1 dX6_enter_13 rfl (lv_at hl 0 rfl) ?_
  refine lv_dup F.1 F.2.1 dX6_enter_14 rfl ?_
  refine gC_X6_92 F hP dX6_enter_15 ?_
  refine lv_iconst (v := 1) F.1 F.2.1 dX6_enter_18 rfl ?_
  refine lv_iadd F.1 F.2.1 dX6_enter_19 ?_
  obtain ⟨M2, eM2, hs⟩ := lt_some hs
  refine hC_X6_92 F hq hP hS eM2 dX6_enter_20 (fun H locs hP hS => ?_)
  refine lv_aload_n F.1 F.2.1 dX6_enter_23 rfl (lv_at hl 0 rfl) ?_
  obtain ⟨k2, hik2, hxk2, hk2, hs⟩ := ic_some hs
  refine gC_X6_99 hik2 hxk2 F hP dX6_enter_24 ?_
  refine lv_aload_n F.1 F.2.1 dX6_enter_27 rfl (lv_at hl 1 rfl) ?_
  obtain ⟨M3, h1, hs⟩ := bn_some hs
  refine x_callV (rest := []) wv_X6_176 F hS (fun _ h => h) hS.2.1 (tX2_begin l G A q hq hk2 hw1 h1) hP (x_recv (ci := 1) F hP rfl (by have := hk2; omega) (eC_F G q hk2 _)) rfl hl.1 rfl ⟨Nat.le_of_ble_eq_true rfl, Nat.le_of_ble_eq_true rfl⟩ ⟨Nat.le_refl _, Nat.le_refl _⟩ (Nat.le_of_ble_eq_true rfl) dX6_enter_28 (fun H locs hP hS _ _ => ?_)
  cases hs
  exact x_vret F hP hS dX6_enter_31

def pX6_begin (M : St) (w1 : Nat) (x2 : Int32) : Option St :=
  lt (up2 M 1 12 x2) fun M1 =>
  lt (up2 M1 1 7 0) fun M2 =>
  lt (up2 M2 1 13 1) fun M3 =>
  lt (up2 M3 1 5 0) fun M4 =>
  lt (up2 M4 1 6 0) fun M5 =>
  lt (up2 M5 24 1 0) fun M6 =>
  lt (up2 M6 1 9 0) fun M7 =>
  bn (pX6_enter M7 w1) fun M8 =>
  some M8
set_option maxHeartbeats 4000000 in
set_option maxRecDepth 100000 in
theorem tX6_begin (l : Launch) (G : zG) (A : Nat → Prop) (q : Nat → Nat) (hq : zQD A 58 q) {M M' : St} {w1 : Nat} {x2 : Int32} (hw1 : w1 < 16) (hs : pX6_begin M w1 x2 = some M') : zKV l yX6_begin cX6_begin 3 3 65 G A (zP G.1 58 q (eC G q) M) [.ref (q 1), .ref (q (6 + w1)), .int x2] (zP G.1 58 q (eC G q) M') := by
  refine zKV_of (by decide) (Nat.le_of_ble_eq_true rfl) (fun p e s m args below meth c H ls F hH hP hl => ?_)
  have F : zFx p s m args meth c cX6_begin RX6 3 none G A := F
  have hS : va_S A s.heap H [] := hH ▸ va_S.rf
  have hl : lv_has ls 3 [(0, .ref (q 1)), (1, .ref (q (6 + w1))), (2, .int x2)] := hl
  rw [pX6_begin] at hs
  refine lv_aload_n F.1 F.2.1 dX6_begin_0 rfl (lv_at hl 0 rfl) ?_
  refine lv_iload_n F.1 F.2.1 dX6_begin_1 rfl (lv_at hl 2 rfl) ?_
  obtain ⟨M1, eM1, hs⟩ := lt_some hs
  refine hC_X6_50 F hq hP hS eM1 dX6_begin_2 (fun H locs hP hS => ?_)
  refine lv_aload_n F.1 F.2.1 dX6_begin_5 rfl (lv_at hl 0 rfl) ?_
  refine lv_iconst (v := 0) F.1 F.2.1 dX6_begin_6 rfl ?_
  obtain ⟨M2, eM2, hs⟩ := lt_some hs
  refine hC_X6_67 F hq hP hS eM2 dX6_begin_7 (fun H locs hP hS => ?_)
  refine lv_aload_n F.1 F.2.1 dX6_begin_10 rfl (lv_at hl 0 rfl) ?_
  refine lv_iconst (v := 1) F.1 F.2.1 dX6_begin_11 rfl ?_
  obtain ⟨M3, eM3, hs⟩ := lt_some hs
  refine hC_X6_54 F hq hP hS eM3 dX6_begin_12 (fun H locs hP hS => ?_)
  refine lv_aload_n F.1 F.2.1 dX6_begin_15 rfl (lv_at hl 0 rfl) ?_
  refine lv_iconst (v := 0) F.1 F.2.1 dX6_begin_16 rfl ?_
  obtain ⟨M4, eM4, hs⟩ := lt_some hs
  refine hC_X6_86 F hq hP hS eM4 dX6_begin_17 (fun H locs hP hS => ?_)
  refine lv_aload_n F.1 F.2.1 dX6_begin_20 rfl (lv_at hl 0 rfl) ?_
  refine lv_iconst (v := 0) F.1 F.2.1 dX6_begin_21 rfl ?_
  obtain ⟨M5, eM5, hs⟩ := lt_some hs
  refine hC_X6_89 F hq hP hS eM5 dX6_begin_22 (fun H locs hP hS => ?_)
  refine lv_aload_n F.1 F.2.1 dX6_begin_25 rfl (lv_at hl 0 rfl) ?_
  refine gC_X6_35 F hP dX6_begin_26 ?_
  refine lv_iconst (v := 0) F.1 F.2.1 dX6_begin_29 rfl ?_
  obtain ⟨M6, eM6, hs⟩ := lt_some hs
  refine hC_X6_83 (by decide : 24 = 22 ∨ 24 = 24) F hq hP hS eM6 dX6_begin_30 (fun H locs hP hS => ?_)
  refine lv_aload_n F.1 F.2.1 dX6_begin_33 rfl (lv_at hl 0 rfl) ?_
  refine lv_iconst (v := 0) F.1 F.2.1 dX6_begin_34 rfl ?_
  obtain ⟨M7, eM7, hs⟩ := lt_some hs
  refine hC_X6_92 F hq hP hS eM7 dX6_begin_35 (fun H locs hP hS => ?_)
  refine lv_aload_n F.1 F.2.1 dX6_begin_38 rfl (lv_at hl 0 rfl) ?_
  refine lv_aload_n F.1 F.2.1 dX6_begin_39 rfl (lv_at hl 1 rfl) ?_
  obtain ⟨M8, h1, hs⟩ := bn_some hs
  refine x_callV (rest := []) wv_X6_95 F hS (fun _ h => h) hS.2.1 (tX6_enter l G A q hq hw1 h1) hP (x_recv (ci := 4) F hP rfl (by decide) (eC_1 G q _)) rfl hl.1 rfl ⟨Nat.le_of_ble_eq_true rfl, Nat.le_of_ble_eq_true rfl⟩ ⟨Nat.le_refl _, Nat.le_refl _⟩ (Nat.le_of_ble_eq_true rfl) dX6_begin_40 (fun H locs hP hS _ _ => ?_)
  cases hs
  exact x_vret F hP hS dX6_begin_43

def pX6_fetchFault (M : St) : Option Int32 :=
  if M 1 11 < 0 then
    some 7
  else
    if 512 ≤ M 1 11 then
      some 7
    else
      gd (inb (M 1 11) 512) <|
      if M 4 (ix (M 1 11)) < 46 then
        gd (inb (M 1 11) 512) <|
        ic (M 4 (ix (M 1 11))) 46 fun k1 =>
        if (M 1 11) + (opLength.getD k1 0) ≤ 512 then
          ic (M 1 10) 8 fun k2 =>
          if opTakes.getD k1 0 ≤ M (27 + k2) 2 then
            if k1 = 28 then
              some 65536
            else
              if k1 = 29 then
                some 65536
              else
                ic (M 1 10) 8 fun k3 =>
                bn (pX2_hasRoom M k3 ((opPuts.getD k1 0) - (opTakes.getD k1 0))) fun r1 =>
                if r1 = 0 then
                  some 6
                else
                  some 65536
          else
            some 6
        else
          some 7
      else
        some 7
set_option maxHeartbeats 4000000 in
set_option maxRecDepth 100000 in
theorem tX6_fetchFault (l : Launch) (G : zG) (A : Nat → Prop) (q : Nat → Nat) (hq : zQD A 58 q) {M : St} {r : Int32} (hs : pX6_fetchFault M = some r) : zKI l yX6_fetchFault cX6_fetchFault 2 (some .int) 1 21 G A (zP G.1 58 q (eC G q) M) [.ref (q 1)] r (zP G.1 58 q (eC G q) M) := by
  refine zKI_of (by decide) (Nat.le_of_ble_eq_true rfl) (fun p e s m args below meth c H ls F hH hP hl => ?_)
  have F : zFx p s m args meth c cX6_fetchFault RX6 2 (some .int) G A := F
  have hS : va_S A s.heap H [] := hH ▸ va_S.rf
  have hl : lv_has ls 2 [(0, .ref (q 1))] := hl
  rw [pX6_fetchFault] at hs
  refine lv_aload_n F.1 F.2.1 dX6_fetchFault_0 rfl (lv_at hl 0 rfl) ?_
  refine gC_X6_106 F hP dX6_fetchFault_1 ?_
  refine lv_if_lt (tgt := 33) F.1 F.2.1 dX6_fetchFault_4 (by decide) (fun c1 => ?_) (fun c1 => ?_)
  · have hs := it_t c1 hs
    refine lv_bipush (v := 7) F.1 F.2.1 dX6_fetchFault_33 rfl ?_
    cases hs
    exact x_iret F rfl rfl hP hS dX6_fetchFault_35
  have hs := it_f c1 hs
  refine lv_aload_n F.1 F.2.1 dX6_fetchFault_7 rfl (lv_at hl 0 rfl) ?_
  refine gC_X6_106 F hP dX6_fetchFault_8 ?_
  refine lv_sipush (v := 512) F.1 F.2.1 dX6_fetchFault_11 rfl ?_
  refine lv_icmp_ge (tgt := 33) F.1 F.2.1 dX6_fetchFault_14 (by decide) (fun c2 => ?_) (fun c2 => ?_)
  · have hs := it_t c2 hs
    refine lv_bipush (v := 7) F.1 F.2.1 dX6_fetchFault_33 rfl ?_
    cases hs
    exact x_iret F rfl rfl hP hS dX6_fetchFault_35
  have hs := it_f c2 hs
  refine lv_aload_n F.1 F.2.1 dX6_fetchFault_17 rfl (lv_at hl 0 rfl) ?_
  refine gC_X6_9 F hP dX6_fetchFault_18 ?_
  refine lv_aload_n F.1 F.2.1 dX6_fetchFault_21 rfl (lv_at hl 0 rfl) ?_
  refine gC_X6_106 F hP dX6_fetchFault_22 ?_
  obtain ⟨g1, hs⟩ := gd_some hs
  refine x_iald F hP (arC_4 G q) g1 dX6_fetchFault_25 ?_
  refine x_getO F hS dX6_fetchFault_26 ?_
  refine x_alenO F hS dX6_fetchFault_29 ?_
  refine lv_icmp_lt (tgt := 36) F.1 F.2.1 dX6_fetchFault_30 (by decide) (fun c3 => ?_) (fun c3 => ?_)
  · have hs := it_t c3 hs
    refine x_getO F hS dX6_fetchFault_36 ?_
    refine lv_aload_n F.1 F.2.1 dX6_fetchFault_39 rfl (lv_at hl 0 rfl) ?_
    refine gC_X6_9 F hP dX6_fetchFault_40 ?_
    refine lv_aload_n F.1 F.2.1 dX6_fetchFault_43 rfl (lv_at hl 0 rfl) ?_
    refine gC_X6_106 F hP dX6_fetchFault_44 ?_
    obtain ⟨g2, hs⟩ := gd_some hs
    refine x_iald F hP (arC_4 G q) g2 dX6_fetchFault_47 ?_
    obtain ⟨k1, hik1, hxk1, hk1, hs⟩ := ic_some hs
    refine x_aaldO hxk1 F hS hik1 dX6_fetchFault_48 ?_
    refine lv_astore_n (lv' := [(1, .ref (G.2.2.1 k1)), (0, .ref (q 1))]) F.1 F.2.1 dX6_fetchFault_49 rfl hl (by decide) rfl (fun ls hl => ?_)
    refine lv_aload_n F.1 F.2.1 dX6_fetchFault_50 rfl (lv_at hl 1 rfl) ?_
    refine gC_X6_106 F hP dX6_fetchFault_51 ?_
    refine lv_aload_n F.1 F.2.1 dX6_fetchFault_54 rfl (lv_at hl 0 rfl) ?_
    refine x_getE e_length m_3_168 F hS hk1 dX6_fetchFault_55 ?_
    refine lv_iadd F.1 F.2.1 dX6_fetchFault_58 ?_
    refine lv_sipush (v := 512) F.1 F.2.1 dX6_fetchFault_59 rfl ?_
    refine lv_icmp_le (tgt := 68) F.1 F.2.1 dX6_fetchFault_62 (by decide) (fun c4 => ?_) (fun c4 => ?_)
    · have hs := it_t c4 hs
      refine lv_aload_n F.1 F.2.1 dX6_fetchFault_68 rfl (lv_at hl 1 rfl) ?_
      obtain ⟨k2, hik2, hxk2, hk2, hs⟩ := ic_some hs
      refine gC_X6_99 hik2 hxk2 F hP dX6_fetchFault_69 ?_
      refine gC_X6_147 hk2 F hP dX6_fetchFault_72 ?_
      refine lv_aload_n F.1 F.2.1 dX6_fetchFault_75 rfl (lv_at hl 0 rfl) ?_
      refine x_getE e_takes m_3_169 F hS hk1 dX6_fetchFault_76 ?_
      refine lv_icmp_ge (tgt := 85) F.1 F.2.1 dX6_fetchFault_79 (by decide) (fun c5 => ?_) (fun c5 => ?_)
      · have hs := it_t c5 hs
        refine lv_aload_n F.1 F.2.1 dX6_fetchFault_85 rfl (lv_at hl 0 rfl) ?_
        refine x_constE (i := 28) (by decide) (by decide) m_1_63 F hS dX6_fetchFault_86 ?_
        refine x_acmp_eq (tgt := 99) F hk1 (show 28 < 46 by decide) dX6_fetchFault_89 (by decide) (fun c6 => ?_) (fun c6 => ?_)
        · have hs := it_t c6 hs
          refine lv_ldc (v := 65536) F.1 F.2.1 F.2.2.2.1 (F.ws m_1_67) dX6_fetchFault_99 ?_
          cases hs
          exact x_iret F rfl rfl hP hS dX6_fetchFault_101
        have hs := it_f c6 hs
        refine lv_aload_n F.1 F.2.1 dX6_fetchFault_92 rfl (lv_at hl 0 rfl) ?_
        refine x_constE (i := 29) (by decide) (by decide) m_1_65 F hS dX6_fetchFault_93 ?_
        refine x_acmp_ne (tgt := 102) F hk1 (show 29 < 46 by decide) dX6_fetchFault_96 (by decide) (fun c7 => ?_) (fun c7 => ?_)
        · have hs := it_f c7 hs
          refine lv_aload_n F.1 F.2.1 dX6_fetchFault_102 rfl (lv_at hl 1 rfl) ?_
          obtain ⟨k3, hik3, hxk3, hk3, hs⟩ := ic_some hs
          refine gC_X6_99 hik3 hxk3 F hP dX6_fetchFault_103 ?_
          refine lv_aload_n F.1 F.2.1 dX6_fetchFault_106 rfl (lv_at hl 0 rfl) ?_
          refine x_getE e_puts m_3_170 F hS hk1 dX6_fetchFault_107 ?_
          refine lv_aload_n F.1 F.2.1 dX6_fetchFault_110 rfl (lv_at hl 0 rfl) ?_
          refine x_getE e_takes m_3_169 F hS hk1 dX6_fetchFault_111 ?_
          refine lv_isub F.1 F.2.1 dX6_fetchFault_114 ?_
          obtain ⟨r1, h1, hs⟩ := bn_some hs
          refine x_callI (rest := []) wv_X6_163 F hS (fun _ h => h) hS.2.1 (tX2_hasRoom l G A q hq hk3 h1) hP (x_recv (ci := 1) F hP rfl (by have := hk3; omega) (eC_F G q hk3 _)) rfl hl.1 rfl ⟨Nat.le_of_ble_eq_true rfl, Nat.le_of_ble_eq_true rfl⟩ ⟨Nat.le_refl _, Nat.le_refl _⟩ (Nat.le_of_ble_eq_true rfl) dX6_fetchFault_115 (fun H locs hP hS _ _ => ?_)
          refine lv_if_eq (tgt := 126) F.1 F.2.1 dX6_fetchFault_118 (by decide) (fun c8 => ?_) (fun c8 => ?_)
          · have hs := it_t c8 hs
            refine lv_bipush (v := 6) F.1 F.2.1 dX6_fetchFault_126 rfl ?_
            cases hs
            exact x_iret F rfl rfl hP hS dX6_fetchFault_128
          have hs := it_f c8 hs
          refine lv_ldc (v := 65536) F.1 F.2.1 F.2.2.2.1 (F.ws m_1_67) dX6_fetchFault_121 ?_
          refine lv_goto (tgt := 128) F.1 F.2.1 dX6_fetchFault_123 (by decide) ?_
          cases hs
          exact x_iret F rfl rfl hP hS dX6_fetchFault_128
        have hs := it_t c7 hs
        refine lv_ldc (v := 65536) F.1 F.2.1 F.2.2.2.1 (F.ws m_1_67) dX6_fetchFault_99 ?_
        cases hs
        exact x_iret F rfl rfl hP hS dX6_fetchFault_101
      have hs := it_f c5 hs
      refine lv_bipush (v := 6) F.1 F.2.1 dX6_fetchFault_82 rfl ?_
      cases hs
      exact x_iret F rfl rfl hP hS dX6_fetchFault_84
    have hs := it_f c4 hs
    refine lv_bipush (v := 7) F.1 F.2.1 dX6_fetchFault_65 rfl ?_
    cases hs
    exact x_iret F rfl rfl hP hS dX6_fetchFault_67
  have hs := it_f c3 hs
  refine lv_bipush (v := 7) F.1 F.2.1 dX6_fetchFault_33 rfl ?_
  cases hs
  exact x_iret F rfl rfl hP hS dX6_fetchFault_35

def pX6_signed (M : St) (x1 : Int32) : Option Int32 :=
  gd (inb ((M 1 11) + x1) 512) <|
  some ((M 4 (ix ((M 1 11) + x1))).toInt8.toInt32)
set_option maxHeartbeats 4000000 in
set_option maxRecDepth 100000 in
theorem tX6_signed (l : Launch) (G : zG) (A : Nat → Prop) (q : Nat → Nat) (hq : zQD A 58 q) {M : St} {r : Int32} {x1 : Int32} (hs : pX6_signed M x1 = some r) : zKI l yX6_signed cX6_signed 2 (some .int) 0 0 G A (zP G.1 58 q (eC G q) M) [.ref (q 1), .int x1] r (zP G.1 58 q (eC G q) M) := by
  refine zKI_of (by decide) (Nat.le_of_ble_eq_true rfl) (fun p e s m args below meth c H ls F hH hP hl => ?_)
  have F : zFx p s m args meth c cX6_signed RX6 2 (some .int) G A := F
  have hS : va_S A s.heap H [] := hH ▸ va_S.rf
  have hl : lv_has ls 2 [(0, .ref (q 1)), (1, .int x1)] := hl
  rw [pX6_signed] at hs
  refine lv_aload_n F.1 F.2.1 dX6_signed_0 rfl (lv_at hl 0 rfl) ?_
  refine gC_X6_9 F hP dX6_signed_1 ?_
  refine lv_aload_n F.1 F.2.1 dX6_signed_4 rfl (lv_at hl 0 rfl) ?_
  refine gC_X6_106 F hP dX6_signed_5 ?_
  refine lv_iload_n F.1 F.2.1 dX6_signed_8 rfl (lv_at hl 1 rfl) ?_
  refine lv_iadd F.1 F.2.1 dX6_signed_9 ?_
  obtain ⟨g1, hs⟩ := gd_some hs
  refine x_iald F hP (arC_4 G q) g1 dX6_signed_10 ?_
  refine lv_i2b F.1 F.2.1 dX6_signed_11 rfl ?_
  cases hs
  exact x_iret F rfl rfl hP hS dX6_signed_12

def pX6_throwOrHandle (M : St) (w1 : Nat) : Option (Int32 × St) :=
  gd (inb (opOrd.getD w1 0) 46) <|
  if (opSw.getD (ix (opOrd.getD w1 0)) 0) = 32 then
    ic (M 1 10) 8 fun k1 =>
    bn2 (pX2_pop M k1) fun r1 M1 =>
    some (r1, M1)
  else
  if (opSw.getD (ix (opOrd.getD w1 0)) 0) = 33 then
    ic (M 1 10) 8 fun k2 =>
    bn (pX6_signed M 1) fun r2 =>
    lt (up2 M (27 + k2) 5 ((M 1 11) + r2)) fun M2 =>
    some (65536, M2)
  else
    ic (M 1 10) 8 fun k3 =>
    lt (up2 M (27 + k3) 5 ((-1024))) fun M3 =>
    some (65536, M3)
set_option maxHeartbeats 4000000 in
set_option maxRecDepth 100000 in
theorem tX6_throwOrHandle (l : Launch) (G : zG) (A : Nat → Prop) (q : Nat → Nat) (hq : zQD A 58 q) {M M' : St} {r : Int32} {w1 : Nat} (hw1 : w1 < 46) (hs : pX6_throwOrHandle M w1 = some (r, M')) : zKI l yX6_throwOrHandle cX6_throwOrHandle 2 (some .int) 1 21 G A (zP G.1 58 q (eC G q) M) [.ref (q 1), .ref (G.2.2.1 w1)] r (zP G.1 58 q (eC G q) M') := by
  refine zKI_of (by decide) (Nat.le_of_ble_eq_true rfl) (fun p e s m args below meth c H ls F hH hP hl => ?_)
  have F : zFx p s m args meth c cX6_throwOrHandle RX6 2 (some .int) G A := F
  have hS : va_S A s.heap H [] := hH ▸ va_S.rf
  have hl : lv_has ls 2 [(0, .ref (q 1)), (1, .ref (G.2.2.1 w1))] := hl
  rw [pX6_throwOrHandle] at hs
  refine x_getS m_1_76 F hS dX6_throwOrHandle_0 ?_
  refine lv_aload_n F.1 F.2.1 dX6_throwOrHandle_3 rfl (lv_at hl 1 rfl) ?_
  refine x_ord m_1_78 F hS hw1 hP hl.1 ⟨Nat.le_of_ble_eq_true rfl, Nat.le_of_ble_eq_true rfl⟩ ⟨Nat.le_refl _, Nat.le_refl _⟩ (rest := [.ref G.2.2.2.2]) (Nat.le_of_ble_eq_true rfl) dX6_throwOrHandle_4 (fun H locs hP hS => ?_)
  obtain ⟨g1, hs⟩ := gd_some hs
  refine x_ialdS F hS g1 dX6_throwOrHandle_7 ?_
  by_cases c1 : (opSw.getD (ix (opOrd.getD w1 0)) 0) = 32
  · have hs := it_t c1 hs
    refine lv_lookup (off := 28) (tgt := 36) F.1 F.2.1 dX6_throwOrHandle_8 (by decide) (by rw [c1]; rfl) (by decide) ?_
    refine lv_aload_n F.1 F.2.1 dX6_throwOrHandle_36 rfl (lv_at hl 0 rfl) ?_
    obtain ⟨k1, hik1, hxk1, hk1, hs⟩ := ic_some hs
    refine gC_X6_99 hik1 hxk1 F hP dX6_throwOrHandle_37 ?_
    obtain ⟨r1, M1, h1, hs⟩ := bn2_some hs
    refine x_callI (rest := []) wv_X6_202 F hS (fun _ h => h) hS.2.1 (tX2_pop l G A q hq hk1 h1) hP (x_recv (ci := 1) F hP rfl (by have := hk1; omega) (eC_F G q hk1 _)) rfl hl.1 rfl ⟨Nat.le_of_ble_eq_true rfl, Nat.le_of_ble_eq_true rfl⟩ ⟨Nat.le_refl _, Nat.le_refl _⟩ (Nat.le_of_ble_eq_true rfl) dX6_throwOrHandle_40 (fun H locs hP hS _ _ => ?_)
    cases hs
    exact x_iret F rfl rfl hP hS dX6_throwOrHandle_43
  have hs := it_f c1 hs
  by_cases c2 : (opSw.getD (ix (opOrd.getD w1 0)) 0) = 33
  · have hs := it_t c2 hs
    refine lv_lookup (off := 36) (tgt := 44) F.1 F.2.1 dX6_throwOrHandle_8 (by decide) (by rw [c2]; rfl) (by decide) ?_
    refine lv_aload_n F.1 F.2.1 dX6_throwOrHandle_44 rfl (lv_at hl 0 rfl) ?_
    obtain ⟨k2, hik2, hxk2, hk2, hs⟩ := ic_some hs
    refine gC_X6_99 hik2 hxk2 F hP dX6_throwOrHandle_45 ?_
    refine lv_aload_n F.1 F.2.1 dX6_throwOrHandle_48 rfl (lv_at hl 0 rfl) ?_
    refine gC_X6_106 F hP dX6_throwOrHandle_49 ?_
    refine lv_aload_n F.1 F.2.1 dX6_throwOrHandle_52 rfl (lv_at hl 0 rfl) ?_
    refine lv_iconst (v := 1) F.1 F.2.1 dX6_throwOrHandle_53 rfl ?_
    obtain ⟨r2, h2, hs⟩ := bn_some hs
    refine x_callI (rest := [.int (M 1 11), .ref (q (27 + k2))]) wv_X6_189 F hS (fun _ h => h) hS.2.1 (tX6_signed l G A q hq h2) hP (x_recv (ci := 4) F hP rfl (by decide) (eC_1 G q _)) rfl hl.1 rfl ⟨Nat.le_of_ble_eq_true rfl, Nat.le_of_ble_eq_true rfl⟩ ⟨Nat.le_refl _, Nat.le_refl _⟩ (Nat.le_of_ble_eq_true rfl) dX6_throwOrHandle_54 (fun H locs hP hS _ _ => ?_)
    refine lv_iadd F.1 F.2.1 dX6_throwOrHandle_57 ?_
    obtain ⟨M2, eM2, hs⟩ := lt_some hs
    refine hC_X6_167 hk2 F hq hP hS eM2 dX6_throwOrHandle_58 (fun H locs hP hS => ?_)
    refine lv_ldc (v := 65536) F.1 F.2.1 F.2.2.2.1 (F.ws m_1_67) dX6_throwOrHandle_61 ?_
    cases hs
    exact x_iret F rfl rfl hP hS dX6_throwOrHandle_63
  have hs := it_f c2 hs
  refine lv_lookup (off := 56) (tgt := 64) F.1 F.2.1 dX6_throwOrHandle_8 (by decide) (by show Op.lookupswitch.offset [(32, 28), (33, 36)] 56 _ = _; rw [lv_osw (a := 32) c1 rfl, lv_osw (a := 33) c2 rfl]; rfl) (by decide) ?_
  refine lv_aload_n F.1 F.2.1 dX6_throwOrHandle_64 rfl (lv_at hl 0 rfl) ?_
  obtain ⟨k3, hik3, hxk3, hk3, hs⟩ := ic_some hs
  refine gC_X6_99 hik3 hxk3 F hP dX6_throwOrHandle_65 ?_
  refine lv_sipush (v := (-1024)) F.1 F.2.1 dX6_throwOrHandle_68 rfl ?_
  obtain ⟨M3, eM3, hs⟩ := lt_some hs
  refine hC_X6_167 hk3 F hq hP hS eM3 dX6_throwOrHandle_71 (fun H locs hP hS => ?_)
  refine lv_ldc (v := 65536) F.1 F.2.1 F.2.2.2.1 (F.ws m_1_67) dX6_throwOrHandle_74 ?_
  cases hs
  exact x_iret F rfl rfl hP hS dX6_throwOrHandle_76

def pX6_put (M : St) (x1 : Int32) : Option (Int32 × St) :=
  ic (M 1 10) 8 fun k1 =>
  bn (pX2_push M k1 x1) fun M1 =>
  some (65536, M1)
set_option maxHeartbeats 4000000 in
set_option maxRecDepth 100000 in
theorem tX6_put (l : Launch) (G : zG) (A : Nat → Prop) (q : Nat → Nat) (hq : zQD A 58 q) {M M' : St} {r : Int32} {x1 : Int32} (hs : pX6_put M x1 = some (r, M')) : zKI l yX6_put cX6_put 2 (some .int) 1 21 G A (zP G.1 58 q (eC G q) M) [.ref (q 1), .int x1] r (zP G.1 58 q (eC G q) M') := by
  refine zKI_of (by decide) (Nat.le_of_ble_eq_true rfl) (fun p e s m args below meth c H ls F hH hP hl => ?_)
  have F : zFx p s m args meth c cX6_put RX6 2 (some .int) G A := F
  have hS : va_S A s.heap H [] := hH ▸ va_S.rf
  have hl : lv_has ls 2 [(0, .ref (q 1)), (1, .int x1)] := hl
  rw [pX6_put] at hs
  refine lv_aload_n F.1 F.2.1 dX6_put_0 rfl (lv_at hl 0 rfl) ?_
  obtain ⟨k1, hik1, hxk1, hk1, hs⟩ := ic_some hs
  refine gC_X6_99 hik1 hxk1 F hP dX6_put_1 ?_
  refine lv_iload_n F.1 F.2.1 dX6_put_4 rfl (lv_at hl 1 rfl) ?_
  obtain ⟨M1, h1, hs⟩ := bn_some hs
  refine x_callV (rest := []) wv_X6_178 F hS (fun _ h => h) hS.2.1 (tX2_push l G A q hq hk1 h1) hP (x_recv (ci := 1) F hP rfl (by have := hk1; omega) (eC_F G q hk1 _)) rfl hl.1 rfl ⟨Nat.le_of_ble_eq_true rfl, Nat.le_of_ble_eq_true rfl⟩ ⟨Nat.le_refl _, Nat.le_refl _⟩ (Nat.le_of_ble_eq_true rfl) dX6_put_5 (fun H locs hP hS _ _ => ?_)
  refine lv_ldc (v := 65536) F.1 F.2.1 F.2.2.2.1 (F.ws m_1_67) dX6_put_8 ?_
  cases hs
  exact x_iret F rfl rfl hP hS dX6_put_10

def pX6_unsigned (M : St) (x1 : Int32) : Option Int32 :=
  gd (inb ((M 1 11) + x1) 512) <|
  some (M 4 (ix ((M 1 11) + x1)))
set_option maxHeartbeats 4000000 in
set_option maxRecDepth 100000 in
theorem tX6_unsigned (l : Launch) (G : zG) (A : Nat → Prop) (q : Nat → Nat) (hq : zQD A 58 q) {M : St} {r : Int32} {x1 : Int32} (hs : pX6_unsigned M x1 = some r) : zKI l yX6_unsigned cX6_unsigned 2 (some .int) 0 0 G A (zP G.1 58 q (eC G q) M) [.ref (q 1), .int x1] r (zP G.1 58 q (eC G q) M) := by
  refine zKI_of (by decide) (Nat.le_of_ble_eq_true rfl) (fun p e s m args below meth c H ls F hH hP hl => ?_)
  have F : zFx p s m args meth c cX6_unsigned RX6 2 (some .int) G A := F
  have hS : va_S A s.heap H [] := hH ▸ va_S.rf
  have hl : lv_has ls 2 [(0, .ref (q 1)), (1, .int x1)] := hl
  rw [pX6_unsigned] at hs
  refine lv_aload_n F.1 F.2.1 dX6_unsigned_0 rfl (lv_at hl 0 rfl) ?_
  refine gC_X6_9 F hP dX6_unsigned_1 ?_
  refine lv_aload_n F.1 F.2.1 dX6_unsigned_4 rfl (lv_at hl 0 rfl) ?_
  refine gC_X6_106 F hP dX6_unsigned_5 ?_
  refine lv_iload_n F.1 F.2.1 dX6_unsigned_8 rfl (lv_at hl 1 rfl) ?_
  refine lv_iadd F.1 F.2.1 dX6_unsigned_9 ?_
  obtain ⟨g1, hs⟩ := gd_some hs
  refine x_iald F hP (arC_4 G q) g1 dX6_unsigned_10 ?_
  cases hs
  exact x_iret F rfl rfl hP hS dX6_unsigned_11

def pX6_swap (M : St) : Option (Int32 × St) :=
  ic (M 1 10) 8 fun k1 =>
  bn2 (pX2_pop M k1) fun r1 M1 =>
  ic (M1 1 10) 8 fun k2 =>
  bn2 (pX2_pop M1 k2) fun r2 M2 =>
  ic (M2 1 10) 8 fun k3 =>
  bn (pX2_push M2 k3 r1) fun M3 =>
  bn2 (pX6_put M3 r2) fun r3 M4 =>
  some (r3, M4)
set_option maxHeartbeats 4000000 in
set_option maxRecDepth 100000 in
theorem tX6_swap (l : Launch) (G : zG) (A : Nat → Prop) (q : Nat → Nat) (hq : zQD A 58 q) {M M' : St} {r : Int32} (hs : pX6_swap M = some (r, M')) : zKI l yX6_swap cX6_swap 3 (some .int) 2 42 G A (zP G.1 58 q (eC G q) M) [.ref (q 1)] r (zP G.1 58 q (eC G q) M') := by
  refine zKI_of (by decide) (Nat.le_of_ble_eq_true rfl) (fun p e s m args below meth c H ls F hH hP hl => ?_)
  have F : zFx p s m args meth c cX6_swap RX6 3 (some .int) G A := F
  have hS : va_S A s.heap H [] := hH ▸ va_S.rf
  have hl : lv_has ls 3 [(0, .ref (q 1))] := hl
  rw [pX6_swap] at hs
  refine lv_aload_n F.1 F.2.1 dX6_swap_0 rfl (lv_at hl 0 rfl) ?_
  obtain ⟨k1, hik1, hxk1, hk1, hs⟩ := ic_some hs
  refine gC_X6_99 hik1 hxk1 F hP dX6_swap_1 ?_
  obtain ⟨r1, M1, h1, hs⟩ := bn2_some hs
  refine x_callI (rest := []) wv_X6_202 F hS (fun _ h => h) hS.2.1 (tX2_pop l G A q hq hk1 h1) hP (x_recv (ci := 1) F hP rfl (by have := hk1; omega) (eC_F G q hk1 _)) rfl hl.1 rfl ⟨Nat.le_of_ble_eq_true rfl, Nat.le_of_ble_eq_true rfl⟩ ⟨Nat.le_refl _, Nat.le_refl _⟩ (Nat.le_of_ble_eq_true rfl) dX6_swap_4 (fun H locs hP hS _ _ => ?_)
  refine lv_istore_n (lv' := [(1, .int r1), (0, .ref (q 1))]) F.1 F.2.1 dX6_swap_7 rfl hl (by decide) rfl (fun ls hl => ?_)
  refine lv_aload_n F.1 F.2.1 dX6_swap_8 rfl (lv_at hl 1 rfl) ?_
  obtain ⟨k2, hik2, hxk2, hk2, hs⟩ := ic_some hs
  refine gC_X6_99 hik2 hxk2 F hP dX6_swap_9 ?_
  obtain ⟨r2, M2, h2, hs⟩ := bn2_some hs
  refine x_callI (rest := []) wv_X6_202 F hS (fun _ h => h) hS.2.1 (tX2_pop l G A q hq hk2 h2) hP (x_recv (ci := 1) F hP rfl (by have := hk2; omega) (eC_F G q hk2 _)) rfl hl.1 rfl ⟨Nat.le_of_ble_eq_true rfl, Nat.le_of_ble_eq_true rfl⟩ ⟨Nat.le_refl _, Nat.le_refl _⟩ (Nat.le_of_ble_eq_true rfl) dX6_swap_12 (fun H locs hP hS _ _ => ?_)
  refine lv_istore_n (lv' := [(2, .int r2), (1, .int r1), (0, .ref (q 1))]) F.1 F.2.1 dX6_swap_15 rfl hl (by decide) rfl (fun ls hl => ?_)
  refine lv_aload_n F.1 F.2.1 dX6_swap_16 rfl (lv_at hl 2 rfl) ?_
  obtain ⟨k3, hik3, hxk3, hk3, hs⟩ := ic_some hs
  refine gC_X6_99 hik3 hxk3 F hP dX6_swap_17 ?_
  refine lv_iload_n F.1 F.2.1 dX6_swap_20 rfl (lv_at hl 1 rfl) ?_
  obtain ⟨M3, h3, hs⟩ := bn_some hs
  refine x_callV (rest := []) wv_X6_178 F hS (fun _ h => h) hS.2.1 (tX2_push l G A q hq hk3 h3) hP (x_recv (ci := 1) F hP rfl (by have := hk3; omega) (eC_F G q hk3 _)) rfl hl.1 rfl ⟨Nat.le_of_ble_eq_true rfl, Nat.le_of_ble_eq_true rfl⟩ ⟨Nat.le_refl _, Nat.le_refl _⟩ (Nat.le_of_ble_eq_true rfl) dX6_swap_21 (fun H locs hP hS _ _ => ?_)
  refine lv_aload_n F.1 F.2.1 dX6_swap_24 rfl (lv_at hl 2 rfl) ?_
  refine lv_iload_n F.1 F.2.1 dX6_swap_25 rfl (lv_at hl 0 rfl) ?_
  obtain ⟨r3, M4, h4, hs⟩ := bn2_some hs
  refine x_callI (rest := []) wv_X6_193 F hS (fun _ h => h) hS.2.1 (tX6_put l G A q hq h4) hP (x_recv (ci := 4) F hP rfl (by decide) (eC_1 G q _)) rfl hl.1 rfl ⟨Nat.le_of_ble_eq_true rfl, Nat.le_of_ble_eq_true rfl⟩ ⟨Nat.le_refl _, Nat.le_refl _⟩ (Nat.le_of_ble_eq_true rfl) dX6_swap_26 (fun H locs hP hS _ _ => ?_)
  cases hs
  exact x_iret F rfl rfl hP hS dX6_swap_29

def pX6_move (M : St) (w1 : Nat) : Option (Int32 × St) :=
  gd (inb (opOrd.getD w1 0) 46) <|
  if (opSw.getD (ix (opOrd.getD w1 0)) 0).toInt < 1 ∨ 8 < (opSw.getD (ix (opOrd.getD w1 0)) 0).toInt then
    some (65536, M)
  else
  if (opSw.getD (ix (opOrd.getD w1 0)) 0) = 1 then
    bn (pX6_signed M 1) fun r1 =>
    bn2 (pX6_put M r1) fun r2 M1 =>
    some (r2, M1)
  else
  if (opSw.getD (ix (opOrd.getD w1 0)) 0) = 2 then
    bn (pX6_signed M 1) fun r3 =>
    bn (pX6_unsigned M 2) fun r4 =>
    bn2 (pX6_put M ((r3 <<< (8 &&& 31)) ||| r4)) fun r5 M2 =>
    some (r5, M2)
  else
  if (opSw.getD (ix (opOrd.getD w1 0)) 0) = 3 then
    ic (M 1 10) 8 fun k1 =>
    bn (pX6_unsigned M 1) fun r6 =>
    gd (inb (r6 - r6 / 8 * 8) 8) <|
    bn2 (pX6_put M (M (35 + k1) (ix (r6 - r6 / 8 * 8)))) fun r7 M3 =>
    some (r7, M3)
  else
  if (opSw.getD (ix (opOrd.getD w1 0)) 0) = 4 then
    ic (M 1 10) 8 fun k2 =>
    bn (pX6_unsigned M 1) fun r8 =>
    ic (M 1 10) 8 fun k3 =>
    bn2 (pX2_pop M k3) fun r9 M4 =>
    gd (inb (r8 - r8 / 8 * 8) 8) <|
    lt (up2 M4 (35 + k2) (ix (r8 - r8 / 8 * 8)) r9) fun M5 =>
    some (65536, M5)
  else
  if (opSw.getD (ix (opOrd.getD w1 0)) 0) = 5 then
    ic (M 1 10) 8 fun k4 =>
    bn (pX6_unsigned M 1) fun r10 =>
    bn (pX6_signed M 2) fun r11 =>
    bn (pX2_addToLocal M k4 (r10 - r10 / 8 * 8) r11) fun M6 =>
    some (65536, M6)
  else
  if (opSw.getD (ix (opOrd.getD w1 0)) 0) = 6 then
    ic (M 1 10) 8 fun k5 =>
    bn (pX2_top M k5) fun r12 =>
    bn2 (pX6_put M r12) fun r13 M7 =>
    some (r13, M7)
  else
  if (opSw.getD (ix (opOrd.getD w1 0)) 0) = 7 then
    ic (M 1 10) 8 fun k6 =>
    bn2 (pX2_pop M k6) fun r14 M8 =>
    some (65536, M8)
  else
  if (opSw.getD (ix (opOrd.getD w1 0)) 0) = 8 then
    bn2 (pX6_swap M) fun r15 M9 =>
    some (r15, M9)
  else
    none
set_option maxHeartbeats 4000000 in
set_option maxRecDepth 100000 in
theorem tX6_move (l : Launch) (G : zG) (A : Nat → Prop) (q : Nat → Nat) (hq : zQD A 58 q) {M M' : St} {r : Int32} {w1 : Nat} (hw1 : w1 < 46) (hs : pX6_move M w1 = some (r, M')) : zKI l yX6_move cX6_move 2 (some .int) 3 64 G A (zP G.1 58 q (eC G q) M) [.ref (q 1), .ref (G.2.2.1 w1)] r (zP G.1 58 q (eC G q) M') := by
  refine zKI_of (by decide) (Nat.le_of_ble_eq_true rfl) (fun p e s m args below meth c H ls F hH hP hl => ?_)
  have F : zFx p s m args meth c cX6_move RX6 2 (some .int) G A := F
  have hS : va_S A s.heap H [] := hH ▸ va_S.rf
  have hl : lv_has ls 2 [(0, .ref (q 1)), (1, .ref (G.2.2.1 w1))] := hl
  rw [pX6_move] at hs
  refine x_getS m_1_76 F hS dX6_move_0 ?_
  refine lv_aload_n F.1 F.2.1 dX6_move_3 rfl (lv_at hl 1 rfl) ?_
  refine x_ord m_1_78 F hS hw1 hP hl.1 ⟨Nat.le_of_ble_eq_true rfl, Nat.le_of_ble_eq_true rfl⟩ ⟨Nat.le_refl _, Nat.le_refl _⟩ (rest := [.ref G.2.2.2.2]) (Nat.le_of_ble_eq_true rfl) dX6_move_4 (fun H locs hP hS => ?_)
  obtain ⟨g1, hs⟩ := gd_some hs
  refine x_ialdS F hS g1 dX6_move_7 ?_
  by_cases c1 : (opSw.getD (ix (opOrd.getD w1 0)) 0).toInt < 1 ∨ 8 < (opSw.getD (ix (opOrd.getD w1 0)) 0).toInt
  · have hs := it_t c1 hs
    refine lv_tableOut (tgt := 183) F.1 F.2.1 dX6_move_8 c1 (by decide) ?_
    refine lv_ldc (v := 65536) F.1 F.2.1 F.2.2.2.1 (F.ws m_1_67) dX6_move_183 ?_
    cases hs
    exact x_iret F rfl rfl hP hS dX6_move_185
  have hs := it_f c1 hs
  by_cases c2 : (opSw.getD (ix (opOrd.getD w1 0)) 0) = 1
  · have hs := it_t c2 hs
    refine lv_tableIn (off := 48) (tgt := 56) F.1 F.2.1 dX6_move_8 (by rw [c2]; decide) (by rw [c2]; decide) (by rw [c2]; rfl) (by decide) ?_
    refine lv_aload_n F.1 F.2.1 dX6_move_56 rfl (lv_at hl 0 rfl) ?_
    refine lv_aload_n F.1 F.2.1 dX6_move_57 rfl (lv_at hl 0 rfl) ?_
    refine lv_iconst (v := 1) F.1 F.2.1 dX6_move_58 rfl ?_
    obtain ⟨r1, h1, hs⟩ := bn_some hs
    refine x_callI (rest := [.ref (q 1)]) wv_X6_189 F hS (fun _ h => h) hS.2.1 (tX6_signed l G A q hq h1) hP (x_recv (ci := 4) F hP rfl (by decide) (eC_1 G q _)) rfl hl.1 rfl ⟨Nat.le_of_ble_eq_true rfl, Nat.le_of_ble_eq_true rfl⟩ ⟨Nat.le_refl _, Nat.le_refl _⟩ (Nat.le_of_ble_eq_true rfl) dX6_move_59 (fun H locs hP hS _ _ => ?_)
    obtain ⟨r2, M1, h2, hs⟩ := bn2_some hs
    refine x_callI (rest := []) wv_X6_193 F hS (fun _ h => h) hS.2.1 (tX6_put l G A q hq h2) hP (x_recv (ci := 4) F hP rfl (by decide) (eC_1 G q _)) rfl hl.1 rfl ⟨Nat.le_of_ble_eq_true rfl, Nat.le_of_ble_eq_true rfl⟩ ⟨Nat.le_refl _, Nat.le_refl _⟩ (Nat.le_of_ble_eq_true rfl) dX6_move_62 (fun H locs hP hS _ _ => ?_)
    cases hs
    exact x_iret F rfl rfl hP hS dX6_move_65
  have hs := it_f c2 hs
  by_cases c3 : (opSw.getD (ix (opOrd.getD w1 0)) 0) = 2
  · have hs := it_t c3 hs
    refine lv_tableIn (off := 58) (tgt := 66) F.1 F.2.1 dX6_move_8 (by rw [c3]; decide) (by rw [c3]; decide) (by rw [c3]; rfl) (by decide) ?_
    refine lv_aload_n F.1 F.2.1 dX6_move_66 rfl (lv_at hl 0 rfl) ?_
    refine lv_aload_n F.1 F.2.1 dX6_move_67 rfl (lv_at hl 0 rfl) ?_
    refine lv_iconst (v := 1) F.1 F.2.1 dX6_move_68 rfl ?_
    obtain ⟨r3, h3, hs⟩ := bn_some hs
    refine x_callI (rest := [.ref (q 1)]) wv_X6_189 F hS (fun _ h => h) hS.2.1 (tX6_signed l G A q hq h3) hP (x_recv (ci := 4) F hP rfl (by decide) (eC_1 G q _)) rfl hl.1 rfl ⟨Nat.le_of_ble_eq_true rfl, Nat.le_of_ble_eq_true rfl⟩ ⟨Nat.le_refl _, Nat.le_refl _⟩ (Nat.le_of_ble_eq_true rfl) dX6_move_69 (fun H locs hP hS _ _ => ?_)
    refine lv_bipush (v := 8) F.1 F.2.1 dX6_move_72 rfl ?_
    refine lv_ishl F.1 F.2.1 dX6_move_74 ?_
    refine lv_aload_n F.1 F.2.1 dX6_move_75 rfl (lv_at hl 0 rfl) ?_
    refine lv_iconst (v := 2) F.1 F.2.1 dX6_move_76 rfl ?_
    obtain ⟨r4, h4, hs⟩ := bn_some hs
    refine x_callI (rest := [.int (r3 <<< (8 &&& 31)), .ref (q 1)]) wv_X6_196 F hS (fun _ h => h) hS.2.1 (tX6_unsigned l G A q hq h4) hP (x_recv (ci := 4) F hP rfl (by decide) (eC_1 G q _)) rfl hl.1 rfl ⟨Nat.le_of_ble_eq_true rfl, Nat.le_of_ble_eq_true rfl⟩ ⟨Nat.le_refl _, Nat.le_refl _⟩ (Nat.le_of_ble_eq_true rfl) dX6_move_77 (fun H locs hP hS _ _ => ?_)
    refine lv_ior F.1 F.2.1 dX6_move_80 ?_
    obtain ⟨r5, M2, h5, hs⟩ := bn2_some hs
    refine x_callI (rest := []) wv_X6_193 F hS (fun _ h => h) hS.2.1 (tX6_put l G A q hq h5) hP (x_recv (ci := 4) F hP rfl (by decide) (eC_1 G q _)) rfl hl.1 rfl ⟨Nat.le_of_ble_eq_true rfl, Nat.le_of_ble_eq_true rfl⟩ ⟨Nat.le_refl _, Nat.le_refl _⟩ (Nat.le_of_ble_eq_true rfl) dX6_move_81 (fun H locs hP hS _ _ => ?_)
    cases hs
    exact x_iret F rfl rfl hP hS dX6_move_84
  have hs := it_f c3 hs
  by_cases c4 : (opSw.getD (ix (opOrd.getD w1 0)) 0) = 3
  · have hs := it_t c4 hs
    refine lv_tableIn (off := 77) (tgt := 85) F.1 F.2.1 dX6_move_8 (by rw [c4]; decide) (by rw [c4]; decide) (by rw [c4]; rfl) (by decide) ?_
    refine lv_aload_n F.1 F.2.1 dX6_move_85 rfl (lv_at hl 0 rfl) ?_
    refine lv_aload_n F.1 F.2.1 dX6_move_86 rfl (lv_at hl 0 rfl) ?_
    obtain ⟨k1, hik1, hxk1, hk1, hs⟩ := ic_some hs
    refine gC_X6_99 hik1 hxk1 F hP dX6_move_87 ?_
    refine gC_X6_199 hk1 F hP dX6_move_90 ?_
    refine lv_aload_n F.1 F.2.1 dX6_move_93 rfl (lv_at hl 0 rfl) ?_
    refine lv_iconst (v := 1) F.1 F.2.1 dX6_move_94 rfl ?_
    obtain ⟨r6, h6, hs⟩ := bn_some hs
    refine x_callI (rest := [.ref (q (35 + k1)), .ref (q 1)]) wv_X6_196 F hS (fun _ h => h) hS.2.1 (tX6_unsigned l G A q hq h6) hP (x_recv (ci := 4) F hP rfl (by decide) (eC_1 G q _)) rfl hl.1 rfl ⟨Nat.le_of_ble_eq_true rfl, Nat.le_of_ble_eq_true rfl⟩ ⟨Nat.le_refl _, Nat.le_refl _⟩ (Nat.le_of_ble_eq_true rfl) dX6_move_95 (fun H locs hP hS _ _ => ?_)
    refine lv_bipush (v := 8) F.1 F.2.1 dX6_move_98 rfl ?_
    refine lv_irem F.1 F.2.1 dX6_move_100 (by decide) ?_
    obtain ⟨g2, hs⟩ := gd_some hs
    refine x_iald F hP (arC_l G q hk1) g2 dX6_move_101 ?_
    obtain ⟨r7, M3, h7, hs⟩ := bn2_some hs
    refine x_callI (rest := []) wv_X6_193 F hS (fun _ h => h) hS.2.1 (tX6_put l G A q hq h7) hP (x_recv (ci := 4) F hP rfl (by decide) (eC_1 G q _)) rfl hl.1 rfl ⟨Nat.le_of_ble_eq_true rfl, Nat.le_of_ble_eq_true rfl⟩ ⟨Nat.le_refl _, Nat.le_refl _⟩ (Nat.le_of_ble_eq_true rfl) dX6_move_102 (fun H locs hP hS _ _ => ?_)
    cases hs
    exact x_iret F rfl rfl hP hS dX6_move_105
  have hs := it_f c4 hs
  by_cases c5 : (opSw.getD (ix (opOrd.getD w1 0)) 0) = 4
  · have hs := it_t c5 hs
    refine lv_tableIn (off := 98) (tgt := 106) F.1 F.2.1 dX6_move_8 (by rw [c5]; decide) (by rw [c5]; decide) (by rw [c5]; rfl) (by decide) ?_
    refine lv_aload_n F.1 F.2.1 dX6_move_106 rfl (lv_at hl 0 rfl) ?_
    obtain ⟨k2, hik2, hxk2, hk2, hs⟩ := ic_some hs
    refine gC_X6_99 hik2 hxk2 F hP dX6_move_107 ?_
    refine gC_X6_199 hk2 F hP dX6_move_110 ?_
    refine lv_aload_n F.1 F.2.1 dX6_move_113 rfl (lv_at hl 0 rfl) ?_
    refine lv_iconst (v := 1) F.1 F.2.1 dX6_move_114 rfl ?_
    obtain ⟨r8, h8, hs⟩ := bn_some hs
    refine x_callI (rest := [.ref (q (35 + k2))]) wv_X6_196 F hS (fun _ h => h) hS.2.1 (tX6_unsigned l G A q hq h8) hP (x_recv (ci := 4) F hP rfl (by decide) (eC_1 G q _)) rfl hl.1 rfl ⟨Nat.le_of_ble_eq_true rfl, Nat.le_of_ble_eq_true rfl⟩ ⟨Nat.le_refl _, Nat.le_refl _⟩ (Nat.le_of_ble_eq_true rfl) dX6_move_115 (fun H locs hP hS _ _ => ?_)
    refine lv_bipush (v := 8) F.1 F.2.1 dX6_move_118 rfl ?_
    refine lv_irem F.1 F.2.1 dX6_move_120 (by decide) ?_
    refine lv_aload_n F.1 F.2.1 dX6_move_121 rfl (lv_at hl 0 rfl) ?_
    obtain ⟨k3, hik3, hxk3, hk3, hs⟩ := ic_some hs
    refine gC_X6_99 hik3 hxk3 F hP dX6_move_122 ?_
    obtain ⟨r9, M4, h9, hs⟩ := bn2_some hs
    refine x_callI (rest := [.int (r8 - r8 / 8 * 8), .ref (q (35 + k2))]) wv_X6_202 F hS (fun _ h => h) hS.2.1 (tX2_pop l G A q hq hk3 h9) hP (x_recv (ci := 1) F hP rfl (by have := hk3; omega) (eC_F G q hk3 _)) rfl hl.1 rfl ⟨Nat.le_of_ble_eq_true rfl, Nat.le_of_ble_eq_true rfl⟩ ⟨Nat.le_refl _, Nat.le_refl _⟩ (Nat.le_of_ble_eq_true rfl) dX6_move_125 (fun H locs hP hS _ _ => ?_)
    obtain ⟨g3, hs⟩ := gd_some hs
    obtain ⟨M5, eM5, hs⟩ := lt_some hs
    refine x_iast F hq hP hS (arC_l G q hk2) g3 eM5 dX6_move_128 (fun H locs hP hS => ?_)
    refine lv_ldc (v := 65536) F.1 F.2.1 F.2.2.2.1 (F.ws m_1_67) dX6_move_129 ?_
    cases hs
    exact x_iret F rfl rfl hP hS dX6_move_131
  have hs := it_f c5 hs
  by_cases c6 : (opSw.getD (ix (opOrd.getD w1 0)) 0) = 5
  · have hs := it_t c6 hs
    refine lv_tableIn (off := 124) (tgt := 132) F.1 F.2.1 dX6_move_8 (by rw [c6]; decide) (by rw [c6]; decide) (by rw [c6]; rfl) (by decide) ?_
    refine lv_aload_n F.1 F.2.1 dX6_move_132 rfl (lv_at hl 0 rfl) ?_
    obtain ⟨k4, hik4, hxk4, hk4, hs⟩ := ic_some hs
    refine gC_X6_99 hik4 hxk4 F hP dX6_move_133 ?_
    refine lv_aload_n F.1 F.2.1 dX6_move_136 rfl (lv_at hl 0 rfl) ?_
    refine lv_iconst (v := 1) F.1 F.2.1 dX6_move_137 rfl ?_
    obtain ⟨r10, h10, hs⟩ := bn_some hs
    refine x_callI (rest := [.ref (q (27 + k4))]) wv_X6_196 F hS (fun _ h => h) hS.2.1 (tX6_unsigned l G A q hq h10) hP (x_recv (ci := 4) F hP rfl (by decide) (eC_1 G q _)) rfl hl.1 rfl ⟨Nat.le_of_ble_eq_true rfl, Nat.le_of_ble_eq_true rfl⟩ ⟨Nat.le_refl _, Nat.le_refl _⟩ (Nat.le_of_ble_eq_true rfl) dX6_move_138 (fun H locs hP hS _ _ => ?_)
    refine lv_bipush (v := 8) F.1 F.2.1 dX6_move_141 rfl ?_
    refine lv_irem F.1 F.2.1 dX6_move_143 (by decide) ?_
    refine lv_aload_n F.1 F.2.1 dX6_move_144 rfl (lv_at hl 0 rfl) ?_
    refine lv_iconst (v := 2) F.1 F.2.1 dX6_move_145 rfl ?_
    obtain ⟨r11, h11, hs⟩ := bn_some hs
    refine x_callI (rest := [.int (r10 - r10 / 8 * 8), .ref (q (27 + k4))]) wv_X6_189 F hS (fun _ h => h) hS.2.1 (tX6_signed l G A q hq h11) hP (x_recv (ci := 4) F hP rfl (by decide) (eC_1 G q _)) rfl hl.1 rfl ⟨Nat.le_of_ble_eq_true rfl, Nat.le_of_ble_eq_true rfl⟩ ⟨Nat.le_refl _, Nat.le_refl _⟩ (Nat.le_of_ble_eq_true rfl) dX6_move_146 (fun H locs hP hS _ _ => ?_)
    obtain ⟨M6, h12, hs⟩ := bn_some hs
    refine x_callV (rest := []) wv_X6_205 F hS (fun _ h => h) hS.2.1 (tX2_addToLocal l G A q hq hk4 h12) hP (x_recv (ci := 1) F hP rfl (by have := hk4; omega) (eC_F G q hk4 _)) rfl hl.1 rfl ⟨Nat.le_of_ble_eq_true rfl, Nat.le_of_ble_eq_true rfl⟩ ⟨Nat.le_refl _, Nat.le_refl _⟩ (Nat.le_of_ble_eq_true rfl) dX6_move_149 (fun H locs hP hS _ _ => ?_)
    refine lv_ldc (v := 65536) F.1 F.2.1 F.2.2.2.1 (F.ws m_1_67) dX6_move_152 ?_
    cases hs
    exact x_iret F rfl rfl hP hS dX6_move_154
  have hs := it_f c6 hs
  by_cases c7 : (opSw.getD (ix (opOrd.getD w1 0)) 0) = 6
  · have hs := it_t c7 hs
    refine lv_tableIn (off := 147) (tgt := 155) F.1 F.2.1 dX6_move_8 (by rw [c7]; decide) (by rw [c7]; decide) (by rw [c7]; rfl) (by decide) ?_
    refine lv_aload_n F.1 F.2.1 dX6_move_155 rfl (lv_at hl 0 rfl) ?_
    refine lv_aload_n F.1 F.2.1 dX6_move_156 rfl (lv_at hl 0 rfl) ?_
    obtain ⟨k5, hik5, hxk5, hk5, hs⟩ := ic_some hs
    refine gC_X6_99 hik5 hxk5 F hP dX6_move_157 ?_
    obtain ⟨r12, h13, hs⟩ := bn_some hs
    refine x_callI (rest := [.ref (q 1)]) wv_X6_209 F hS (fun _ h => h) hS.2.1 (tX2_top l G A q hq hk5 h13) hP (x_recv (ci := 1) F hP rfl (by have := hk5; omega) (eC_F G q hk5 _)) rfl hl.1 rfl ⟨Nat.le_of_ble_eq_true rfl, Nat.le_of_ble_eq_true rfl⟩ ⟨Nat.le_refl _, Nat.le_refl _⟩ (Nat.le_of_ble_eq_true rfl) dX6_move_160 (fun H locs hP hS _ _ => ?_)
    obtain ⟨r13, M7, h14, hs⟩ := bn2_some hs
    refine x_callI (rest := []) wv_X6_193 F hS (fun _ h => h) hS.2.1 (tX6_put l G A q hq h14) hP (x_recv (ci := 4) F hP rfl (by decide) (eC_1 G q _)) rfl hl.1 rfl ⟨Nat.le_of_ble_eq_true rfl, Nat.le_of_ble_eq_true rfl⟩ ⟨Nat.le_refl _, Nat.le_refl _⟩ (Nat.le_of_ble_eq_true rfl) dX6_move_163 (fun H locs hP hS _ _ => ?_)
    cases hs
    exact x_iret F rfl rfl hP hS dX6_move_166
  have hs := it_f c7 hs
  by_cases c8 : (opSw.getD (ix (opOrd.getD w1 0)) 0) = 7
  · have hs := it_t c8 hs
    refine lv_tableIn (off := 159) (tgt := 167) F.1 F.2.1 dX6_move_8 (by rw [c8]; decide) (by rw [c8]; decide) (by rw [c8]; rfl) (by decide) ?_
    refine lv_aload_n F.1 F.2.1 dX6_move_167 rfl (lv_at hl 0 rfl) ?_
    obtain ⟨k6, hik6, hxk6, hk6, hs⟩ := ic_some hs
    refine gC_X6_99 hik6 hxk6 F hP dX6_move_168 ?_
    obtain ⟨r14, M8, h15, hs⟩ := bn2_some hs
    refine x_callI (rest := []) wv_X6_202 F hS (fun _ h => h) hS.2.1 (tX2_pop l G A q hq hk6 h15) hP (x_recv (ci := 1) F hP rfl (by have := hk6; omega) (eC_F G q hk6 _)) rfl hl.1 rfl ⟨Nat.le_of_ble_eq_true rfl, Nat.le_of_ble_eq_true rfl⟩ ⟨Nat.le_refl _, Nat.le_refl _⟩ (Nat.le_of_ble_eq_true rfl) dX6_move_171 (fun H locs hP hS _ _ => ?_)
    refine lv_pop F.1 F.2.1 dX6_move_174 rfl ?_
    refine lv_ldc (v := 65536) F.1 F.2.1 F.2.2.2.1 (F.ws m_1_67) dX6_move_175 ?_
    cases hs
    exact x_iret F rfl rfl hP hS dX6_move_177
  have hs := it_f c8 hs
  by_cases c9 : (opSw.getD (ix (opOrd.getD w1 0)) 0) = 8
  · have hs := it_t c9 hs
    refine lv_tableIn (off := 170) (tgt := 178) F.1 F.2.1 dX6_move_8 (by rw [c9]; decide) (by rw [c9]; decide) (by rw [c9]; rfl) (by decide) ?_
    refine lv_aload_n F.1 F.2.1 dX6_move_178 rfl (lv_at hl 0 rfl) ?_
    obtain ⟨r15, M9, h16, hs⟩ := bn2_some hs
    refine x_callI (rest := []) wv_X6_212 F hS (fun _ h => h) hS.2.1 (tX6_swap l G A q hq h16) hP (x_recv (ci := 4) F hP rfl (by decide) (eC_1 G q _)) rfl hl.1 rfl ⟨Nat.le_of_ble_eq_true rfl, Nat.le_of_ble_eq_true rfl⟩ ⟨Nat.le_refl _, Nat.le_refl _⟩ (Nat.le_of_ble_eq_true rfl) dX6_move_179 (fun H locs hP hS _ _ => ?_)
    cases hs
    exact x_iret F rfl rfl hP hS dX6_move_182
  have hs := it_f c9 hs
  cases hs

def pJ9_floorMod_7cf53 (x0 : Int32) (x1 : Int32) : Option Int32 :=
  gd (x1 != 0) <|
  if 0 ≤ x0 ^^^ x1 then
    some (x0 - x0 / x1 * x1)
  else
    if x0 - x0 / x1 * x1 = 0 then
      some (x0 - x0 / x1 * x1)
    else
      some ((x0 - x0 / x1 * x1) + x1)
set_option maxHeartbeats 4000000 in
set_option maxRecDepth 100000 in
theorem tJ9_floorMod_7cf53 (l : Launch) (G : zG) (A : Nat → Prop) (P0 : Heap → Prop) {r : Int32} {x0 : Int32} {x1 : Int32} (hs : pJ9_floorMod_7cf53 x0 x1 = some r) : zKI l yJ9_floorMod_7cf53 cJ9_floorMod_7cf53 3 (some .int) 0 0 G A P0 [.int x0, .int x1] r P0 := by
  refine zKI_ofF (by decide +kernel) (Nat.le_of_ble_eq_true rfl) (fun p e s m args below meth c H ls F hH hP hl => ?_)
  have F : zFx p s m args meth c cJ9_floorMod_7cf53 RJ9 3 (some .int) G A := F
  have hS : va_S A s.heap H [] := hH ▸ va_S.rf
  have hl : lv_has ls 3 [(0, .int x0), (1, .int x1)] := hl
  rw [pJ9_floorMod_7cf53] at hs
  refine lv_iload_n F.1 F.2.1 dJ9_floorMod_7cf53_0 rfl (lv_at hl 0 rfl) ?_
  refine lv_iload_n F.1 F.2.1 dJ9_floorMod_7cf53_1 rfl (lv_at hl 1 rfl) ?_
  obtain ⟨g1, hs⟩ := gd_some hs
  refine lv_irem F.1 F.2.1 dJ9_floorMod_7cf53_2 (nz_of g1) ?_
  refine lv_istore_n (lv' := [(2, .int (x0 - x0 / x1 * x1)), (0, .int x0), (1, .int x1)]) F.1 F.2.1 dJ9_floorMod_7cf53_3 rfl hl (by decide) rfl (fun ls hl => ?_)
  refine lv_iload_n F.1 F.2.1 dJ9_floorMod_7cf53_4 rfl (lv_at hl 1 rfl) ?_
  refine lv_iload_n F.1 F.2.1 dJ9_floorMod_7cf53_5 rfl (lv_at hl 2 rfl) ?_
  refine lv_ixor F.1 F.2.1 dJ9_floorMod_7cf53_6 ?_
  refine lv_if_ge (tgt := 18) F.1 F.2.1 dJ9_floorMod_7cf53_7 (by decide) (fun c1 => ?_) (fun c1 => ?_)
  · have hs := it_t c1 hs
    refine lv_iload_n F.1 F.2.1 dJ9_floorMod_7cf53_18 rfl (lv_at hl 0 rfl) ?_
    cases hs
    exact x_iret F rfl rfl hP hS dJ9_floorMod_7cf53_19
  have hs := it_f c1 hs
  refine lv_iload_n F.1 F.2.1 dJ9_floorMod_7cf53_10 rfl (lv_at hl 0 rfl) ?_
  refine lv_if_eq (tgt := 18) F.1 F.2.1 dJ9_floorMod_7cf53_11 (by decide) (fun c2 => ?_) (fun c2 => ?_)
  · have hs := it_t c2 hs
    refine lv_iload_n F.1 F.2.1 dJ9_floorMod_7cf53_18 rfl (lv_at hl 0 rfl) ?_
    cases hs
    exact x_iret F rfl rfl hP hS dJ9_floorMod_7cf53_19
  have hs := it_f c2 hs
  refine lv_iload_n F.1 F.2.1 dJ9_floorMod_7cf53_14 rfl (lv_at hl 0 rfl) ?_
  refine lv_iload_n F.1 F.2.1 dJ9_floorMod_7cf53_15 rfl (lv_at hl 2 rfl) ?_
  refine lv_iadd F.1 F.2.1 dJ9_floorMod_7cf53_16 ?_
  cases hs
  exact x_iret F rfl rfl hP hS dJ9_floorMod_7cf53_17

def pX6_reckon (M : St) (w1 : Nat) : Option (Int32 × St) :=
  ic (M 1 10) 8 fun k1 =>
  bn2 (pX2_pop M k1) fun r1 M1 =>
  if w1 = 11 then
    bn2 (pX6_put M1 (-r1)) fun r15 M14 =>
    some (r15, M14)
  else
    ic (M1 1 10) 8 fun k2 =>
    bn2 (pX2_pop M1 k2) fun r2 M2 =>
    bn (pJ9_floorMod_7cf53 r1 16) fun r3 =>
    gd (inb (opOrd.getD w1 0) 46) <|
    if (opSw.getD (ix (opOrd.getD w1 0)) 0).toInt < 9 ∨ 18 < (opSw.getD (ix (opOrd.getD w1 0)) 0).toInt then
      bn2 (pX6_put M2 (((r2 &&& 65535).toUInt32 >>> (r3.toUInt32 &&& Int32.toUInt32 31)).toInt32)) fun r4 M3 =>
      some (r4, M3)
    else
    if (opSw.getD (ix (opOrd.getD w1 0)) 0) = 9 then
      bn2 (pX6_put M2 (r2 + r1)) fun r5 M4 =>
      some (r5, M4)
    else
    if (opSw.getD (ix (opOrd.getD w1 0)) 0) = 10 then
      bn2 (pX6_put M2 (r2 - r1)) fun r6 M5 =>
      some (r6, M5)
    else
    if (opSw.getD (ix (opOrd.getD w1 0)) 0) = 11 then
      bn2 (pX6_put M2 (r2 * r1)) fun r7 M6 =>
      some (r7, M6)
    else
    if (opSw.getD (ix (opOrd.getD w1 0)) 0) = 12 then
      if r1 = 0 then
        some (1, M2)
      else
        gd (r1 != 0) <|
        bn2 (pX6_put M2 (r2 / r1)) fun r8 M7 =>
        some (r8, M7)
    else
    if (opSw.getD (ix (opOrd.getD w1 0)) 0) = 13 then
      if r1 = 0 then
        some (1, M2)
      else
        gd (r1 != 0) <|
        bn2 (pX6_put M2 (r2 - r2 / r1 * r1)) fun r9 M8 =>
        some (r9, M8)
    else
    if (opSw.getD (ix (opOrd.getD w1 0)) 0) = 14 then
      bn2 (pX6_put M2 (r2 &&& r1)) fun r10 M9 =>
      some (r10, M9)
    else
    if (opSw.getD (ix (opOrd.getD w1 0)) 0) = 15 then
      bn2 (pX6_put M2 (r2 ||| r1)) fun r11 M10 =>
      some (r11, M10)
    else
    if (opSw.getD (ix (opOrd.getD w1 0)) 0) = 16 then
      bn2 (pX6_put M2 (r2 ^^^ r1)) fun r12 M11 =>
      some (r12, M11)
    else
    if (opSw.getD (ix (opOrd.getD w1 0)) 0) = 17 then
      bn2 (pX6_put M2 (r2 <<< (r3 &&& 31))) fun r13 M12 =>
      some (r13, M12)
    else
    if (opSw.getD (ix (opOrd.getD w1 0)) 0) = 18 then
      bn2 (pX6_put M2 (r2 >>> (r3 &&& 31))) fun r14 M13 =>
      some (r14, M13)
    else
      none
set_option maxHeartbeats 4000000 in
set_option maxRecDepth 100000 in
theorem tX6_reckon (l : Launch) (G : zG) (A : Nat → Prop) (q : Nat → Nat) (hq : zQD A 58 q) {M M' : St} {r : Int32} {w1 : Nat} (hw1 : w1 < 46) (hs : pX6_reckon M w1 = some (r, M')) : zKI l yX6_reckon cX6_reckon 5 (some .int) 2 42 G A (zP G.1 58 q (eC G q) M) [.ref (q 1), .ref (G.2.2.1 w1)] r (zP G.1 58 q (eC G q) M') := by
  refine zKI_of (by decide) (Nat.le_of_ble_eq_true rfl) (fun p e s m args below meth c H ls F hH hP hl => ?_)
  have F : zFx p s m args meth c cX6_reckon RX6 5 (some .int) G A := F
  have hS : va_S A s.heap H [] := hH ▸ va_S.rf
  have hl : lv_has ls 5 [(0, .ref (q 1)), (1, .ref (G.2.2.1 w1))] := hl
  rw [pX6_reckon] at hs
  refine lv_aload_n F.1 F.2.1 dX6_reckon_0 rfl (lv_at hl 0 rfl) ?_
  obtain ⟨k1, hik1, hxk1, hk1, hs⟩ := ic_some hs
  refine gC_X6_99 hik1 hxk1 F hP dX6_reckon_1 ?_
  obtain ⟨r1, M1, h1, hs⟩ := bn2_some hs
  refine x_callI (rest := []) wv_X6_202 F hS (fun _ h => h) hS.2.1 (tX2_pop l G A q hq hk1 h1) hP (x_recv (ci := 1) F hP rfl (by have := hk1; omega) (eC_F G q hk1 _)) rfl hl.1 rfl ⟨Nat.le_of_ble_eq_true rfl, Nat.le_of_ble_eq_true rfl⟩ ⟨Nat.le_refl _, Nat.le_refl _⟩ (Nat.le_of_ble_eq_true rfl) dX6_reckon_4 (fun H locs hP hS _ _ => ?_)
  refine lv_istore_n (lv' := [(2, .int r1), (0, .ref (q 1)), (1, .ref (G.2.2.1 w1))]) F.1 F.2.1 dX6_reckon_7 rfl hl (by decide) rfl (fun ls hl => ?_)
  refine lv_aload_n F.1 F.2.1 dX6_reckon_8 rfl (lv_at hl 2 rfl) ?_
  refine x_constE (i := 11) (by decide) (by decide) m_1_120 F hS dX6_reckon_9 ?_
  refine x_acmp_ne (tgt := 22) F hw1 (show 11 < 46 by decide) dX6_reckon_12 (by decide) (fun c1 => ?_) (fun c1 => ?_)
  · have hs := it_f c1 hs
    refine lv_aload_n F.1 F.2.1 dX6_reckon_22 rfl (lv_at hl 1 rfl) ?_
    obtain ⟨k2, hik2, hxk2, hk2, hs⟩ := ic_some hs
    refine gC_X6_99 hik2 hxk2 F hP dX6_reckon_23 ?_
    obtain ⟨r2, M2, h2, hs⟩ := bn2_some hs
    refine x_callI (rest := []) wv_X6_202 F hS (fun _ h => h) hS.2.1 (tX2_pop l G A q hq hk2 h2) hP (x_recv (ci := 1) F hP rfl (by have := hk2; omega) (eC_F G q hk2 _)) rfl hl.1 rfl ⟨Nat.le_of_ble_eq_true rfl, Nat.le_of_ble_eq_true rfl⟩ ⟨Nat.le_refl _, Nat.le_refl _⟩ (Nat.le_of_ble_eq_true rfl) dX6_reckon_26 (fun H locs hP hS _ _ => ?_)
    refine lv_istore_n (lv' := [(3, .int r2), (2, .int r1), (0, .ref (q 1)), (1, .ref (G.2.2.1 w1))]) F.1 F.2.1 dX6_reckon_29 rfl hl (by decide) rfl (fun ls hl => ?_)
    refine lv_iload_n F.1 F.2.1 dX6_reckon_30 rfl (lv_at hl 1 rfl) ?_
    refine lv_bipush (v := 16) F.1 F.2.1 dX6_reckon_31 rfl ?_
    obtain ⟨r3, h3, hs⟩ := bn_some hs
    refine x_callSI (rest := []) wv_X6_218 F hS (fun _ h => h) hS.2.1 (tJ9_floorMod_7cf53 l G A (zP G.1 58 q (eC G q) M2) h3) hP rfl hl.1 rfl ⟨Nat.le_of_ble_eq_true rfl, Nat.le_of_ble_eq_true rfl⟩ ⟨Nat.le_refl _, Nat.le_refl _⟩ (Nat.le_of_ble_eq_true rfl) dX6_reckon_33 (fun H locs hP hS _ _ => ?_)
    refine lv_istore (lv' := [(4, .int r3), (3, .int r2), (2, .int r1), (0, .ref (q 1)), (1, .ref (G.2.2.1 w1))]) F.1 F.2.1 dX6_reckon_36 hl (by decide) rfl (fun ls hl => ?_)
    refine x_getS m_1_76 F hS dX6_reckon_38 ?_
    refine lv_aload_n F.1 F.2.1 dX6_reckon_41 rfl (lv_at hl 4 rfl) ?_
    refine x_ord m_1_78 F hS hw1 hP hl.1 ⟨Nat.le_of_ble_eq_true rfl, Nat.le_of_ble_eq_true rfl⟩ ⟨Nat.le_refl _, Nat.le_refl _⟩ (rest := [.ref G.2.2.2.2]) (Nat.le_of_ble_eq_true rfl) dX6_reckon_42 (fun H locs hP hS => ?_)
    obtain ⟨g1, hs⟩ := gd_some hs
    refine x_ialdS F hS g1 dX6_reckon_45 ?_
    by_cases c2 : (opSw.getD (ix (opOrd.getD w1 0)) 0).toInt < 9 ∨ 18 < (opSw.getD (ix (opOrd.getD w1 0)) 0).toInt
    · have hs := it_t c2 hs
      refine lv_tableOut (tgt := 198) F.1 F.2.1 dX6_reckon_46 c2 (by decide) ?_
      refine lv_aload_n F.1 F.2.1 dX6_reckon_198 rfl (lv_at hl 3 rfl) ?_
      refine lv_iload_n F.1 F.2.1 dX6_reckon_199 rfl (lv_at hl 1 rfl) ?_
      refine lv_ldc (v := 65535) F.1 F.2.1 F.2.2.2.1 (F.ws m_1_125) dX6_reckon_200 ?_
      refine lv_iand F.1 F.2.1 dX6_reckon_202 ?_
      refine lv_iload F.1 F.2.1 dX6_reckon_203 (lv_at hl 0 rfl) ?_
      refine lv_iushr F.1 F.2.1 dX6_reckon_205 rfl ?_
      obtain ⟨r4, M3, h4, hs⟩ := bn2_some hs
      refine x_callI (rest := []) wv_X6_193 F hS (fun _ h => h) hS.2.1 (tX6_put l G A q hq h4) hP (x_recv (ci := 4) F hP rfl (by decide) (eC_1 G q _)) rfl hl.1 rfl ⟨Nat.le_of_ble_eq_true rfl, Nat.le_of_ble_eq_true rfl⟩ ⟨Nat.le_refl _, Nat.le_refl _⟩ (Nat.le_of_ble_eq_true rfl) dX6_reckon_206 (fun H locs hP hS _ _ => ?_)
      cases hs
      exact x_iret F rfl rfl hP hS dX6_reckon_209
    have hs := it_f c2 hs
    by_cases c3 : (opSw.getD (ix (opOrd.getD w1 0)) 0) = 9
    · have hs := it_t c3 hs
      refine lv_tableIn (off := 54) (tgt := 100) F.1 F.2.1 dX6_reckon_46 (by rw [c3]; decide) (by rw [c3]; decide) (by rw [c3]; rfl) (by decide) ?_
      refine lv_aload_n F.1 F.2.1 dX6_reckon_100 rfl (lv_at hl 3 rfl) ?_
      refine lv_iload_n F.1 F.2.1 dX6_reckon_101 rfl (lv_at hl 1 rfl) ?_
      refine lv_iload_n F.1 F.2.1 dX6_reckon_102 rfl (lv_at hl 2 rfl) ?_
      refine lv_iadd F.1 F.2.1 dX6_reckon_103 ?_
      obtain ⟨r5, M4, h5, hs⟩ := bn2_some hs
      refine x_callI (rest := []) wv_X6_193 F hS (fun _ h => h) hS.2.1 (tX6_put l G A q hq h5) hP (x_recv (ci := 4) F hP rfl (by decide) (eC_1 G q _)) rfl hl.1 rfl ⟨Nat.le_of_ble_eq_true rfl, Nat.le_of_ble_eq_true rfl⟩ ⟨Nat.le_refl _, Nat.le_refl _⟩ (Nat.le_of_ble_eq_true rfl) dX6_reckon_104 (fun H locs hP hS _ _ => ?_)
      cases hs
      exact x_iret F rfl rfl hP hS dX6_reckon_107
    have hs := it_f c3 hs
    by_cases c4 : (opSw.getD (ix (opOrd.getD w1 0)) 0) = 10
    · have hs := it_t c4 hs
      refine lv_tableIn (off := 62) (tgt := 108) F.1 F.2.1 dX6_reckon_46 (by rw [c4]; decide) (by rw [c4]; decide) (by rw [c4]; rfl) (by decide) ?_
      refine lv_aload_n F.1 F.2.1 dX6_reckon_108 rfl (lv_at hl 3 rfl) ?_
      refine lv_iload_n F.1 F.2.1 dX6_reckon_109 rfl (lv_at hl 1 rfl) ?_
      refine lv_iload_n F.1 F.2.1 dX6_reckon_110 rfl (lv_at hl 2 rfl) ?_
      refine lv_isub F.1 F.2.1 dX6_reckon_111 ?_
      obtain ⟨r6, M5, h6, hs⟩ := bn2_some hs
      refine x_callI (rest := []) wv_X6_193 F hS (fun _ h => h) hS.2.1 (tX6_put l G A q hq h6) hP (x_recv (ci := 4) F hP rfl (by decide) (eC_1 G q _)) rfl hl.1 rfl ⟨Nat.le_of_ble_eq_true rfl, Nat.le_of_ble_eq_true rfl⟩ ⟨Nat.le_refl _, Nat.le_refl _⟩ (Nat.le_of_ble_eq_true rfl) dX6_reckon_112 (fun H locs hP hS _ _ => ?_)
      cases hs
      exact x_iret F rfl rfl hP hS dX6_reckon_115
    have hs := it_f c4 hs
    by_cases c5 : (opSw.getD (ix (opOrd.getD w1 0)) 0) = 11
    · have hs := it_t c5 hs
      refine lv_tableIn (off := 70) (tgt := 116) F.1 F.2.1 dX6_reckon_46 (by rw [c5]; decide) (by rw [c5]; decide) (by rw [c5]; rfl) (by decide) ?_
      refine lv_aload_n F.1 F.2.1 dX6_reckon_116 rfl (lv_at hl 3 rfl) ?_
      refine lv_iload_n F.1 F.2.1 dX6_reckon_117 rfl (lv_at hl 1 rfl) ?_
      refine lv_iload_n F.1 F.2.1 dX6_reckon_118 rfl (lv_at hl 2 rfl) ?_
      refine lv_imul F.1 F.2.1 dX6_reckon_119 ?_
      obtain ⟨r7, M6, h7, hs⟩ := bn2_some hs
      refine x_callI (rest := []) wv_X6_193 F hS (fun _ h => h) hS.2.1 (tX6_put l G A q hq h7) hP (x_recv (ci := 4) F hP rfl (by decide) (eC_1 G q _)) rfl hl.1 rfl ⟨Nat.le_of_ble_eq_true rfl, Nat.le_of_ble_eq_true rfl⟩ ⟨Nat.le_refl _, Nat.le_refl _⟩ (Nat.le_of_ble_eq_true rfl) dX6_reckon_120 (fun H locs hP hS _ _ => ?_)
      cases hs
      exact x_iret F rfl rfl hP hS dX6_reckon_123
    have hs := it_f c5 hs
    by_cases c6 : (opSw.getD (ix (opOrd.getD w1 0)) 0) = 12
    · have hs := it_t c6 hs
      refine lv_tableIn (off := 78) (tgt := 124) F.1 F.2.1 dX6_reckon_46 (by rw [c6]; decide) (by rw [c6]; decide) (by rw [c6]; rfl) (by decide) ?_
      refine lv_iload_n F.1 F.2.1 dX6_reckon_124 rfl (lv_at hl 2 rfl) ?_
      refine lv_if_ne (tgt := 132) F.1 F.2.1 dX6_reckon_125 (by decide) (fun c7 => ?_) (fun c7 => ?_)
      · have hs := it_f c7 hs
        refine lv_aload_n F.1 F.2.1 dX6_reckon_132 rfl (lv_at hl 3 rfl) ?_
        refine lv_iload_n F.1 F.2.1 dX6_reckon_133 rfl (lv_at hl 1 rfl) ?_
        refine lv_iload_n F.1 F.2.1 dX6_reckon_134 rfl (lv_at hl 2 rfl) ?_
        obtain ⟨g2, hs⟩ := gd_some hs
        refine lv_idiv F.1 F.2.1 dX6_reckon_135 (nz_of g2) ?_
        obtain ⟨r8, M7, h8, hs⟩ := bn2_some hs
        refine x_callI (rest := []) wv_X6_193 F hS (fun _ h => h) hS.2.1 (tX6_put l G A q hq h8) hP (x_recv (ci := 4) F hP rfl (by decide) (eC_1 G q _)) rfl hl.1 rfl ⟨Nat.le_of_ble_eq_true rfl, Nat.le_of_ble_eq_true rfl⟩ ⟨Nat.le_refl _, Nat.le_refl _⟩ (Nat.le_of_ble_eq_true rfl) dX6_reckon_136 (fun H locs hP hS _ _ => ?_)
        cases hs
        exact x_iret F rfl rfl hP hS dX6_reckon_139
      have hs := it_t c7 hs
      refine lv_iconst (v := 1) F.1 F.2.1 dX6_reckon_128 rfl ?_
      refine lv_goto (tgt := 139) F.1 F.2.1 dX6_reckon_129 (by decide) ?_
      cases hs
      exact x_iret F rfl rfl hP hS dX6_reckon_139
    have hs := it_f c6 hs
    by_cases c8 : (opSw.getD (ix (opOrd.getD w1 0)) 0) = 13
    · have hs := it_t c8 hs
      refine lv_tableIn (off := 94) (tgt := 140) F.1 F.2.1 dX6_reckon_46 (by rw [c8]; decide) (by rw [c8]; decide) (by rw [c8]; rfl) (by decide) ?_
      refine lv_iload_n F.1 F.2.1 dX6_reckon_140 rfl (lv_at hl 2 rfl) ?_
      refine lv_if_ne (tgt := 148) F.1 F.2.1 dX6_reckon_141 (by decide) (fun c9 => ?_) (fun c9 => ?_)
      · have hs := it_f c9 hs
        refine lv_aload_n F.1 F.2.1 dX6_reckon_148 rfl (lv_at hl 3 rfl) ?_
        refine lv_iload_n F.1 F.2.1 dX6_reckon_149 rfl (lv_at hl 1 rfl) ?_
        refine lv_iload_n F.1 F.2.1 dX6_reckon_150 rfl (lv_at hl 2 rfl) ?_
        obtain ⟨g3, hs⟩ := gd_some hs
        refine lv_irem F.1 F.2.1 dX6_reckon_151 (nz_of g3) ?_
        obtain ⟨r9, M8, h9, hs⟩ := bn2_some hs
        refine x_callI (rest := []) wv_X6_193 F hS (fun _ h => h) hS.2.1 (tX6_put l G A q hq h9) hP (x_recv (ci := 4) F hP rfl (by decide) (eC_1 G q _)) rfl hl.1 rfl ⟨Nat.le_of_ble_eq_true rfl, Nat.le_of_ble_eq_true rfl⟩ ⟨Nat.le_refl _, Nat.le_refl _⟩ (Nat.le_of_ble_eq_true rfl) dX6_reckon_152 (fun H locs hP hS _ _ => ?_)
        cases hs
        exact x_iret F rfl rfl hP hS dX6_reckon_155
      have hs := it_t c9 hs
      refine lv_iconst (v := 1) F.1 F.2.1 dX6_reckon_144 rfl ?_
      refine lv_goto (tgt := 155) F.1 F.2.1 dX6_reckon_145 (by decide) ?_
      cases hs
      exact x_iret F rfl rfl hP hS dX6_reckon_155
    have hs := it_f c8 hs
    by_cases c10 : (opSw.getD (ix (opOrd.getD w1 0)) 0) = 14
    · have hs := it_t c10 hs
      refine lv_tableIn (off := 110) (tgt := 156) F.1 F.2.1 dX6_reckon_46 (by rw [c10]; decide) (by rw [c10]; decide) (by rw [c10]; rfl) (by decide) ?_
      refine lv_aload_n F.1 F.2.1 dX6_reckon_156 rfl (lv_at hl 3 rfl) ?_
      refine lv_iload_n F.1 F.2.1 dX6_reckon_157 rfl (lv_at hl 1 rfl) ?_
      refine lv_iload_n F.1 F.2.1 dX6_reckon_158 rfl (lv_at hl 2 rfl) ?_
      refine lv_iand F.1 F.2.1 dX6_reckon_159 ?_
      obtain ⟨r10, M9, h10, hs⟩ := bn2_some hs
      refine x_callI (rest := []) wv_X6_193 F hS (fun _ h => h) hS.2.1 (tX6_put l G A q hq h10) hP (x_recv (ci := 4) F hP rfl (by decide) (eC_1 G q _)) rfl hl.1 rfl ⟨Nat.le_of_ble_eq_true rfl, Nat.le_of_ble_eq_true rfl⟩ ⟨Nat.le_refl _, Nat.le_refl _⟩ (Nat.le_of_ble_eq_true rfl) dX6_reckon_160 (fun H locs hP hS _ _ => ?_)
      cases hs
      exact x_iret F rfl rfl hP hS dX6_reckon_163
    have hs := it_f c10 hs
    by_cases c11 : (opSw.getD (ix (opOrd.getD w1 0)) 0) = 15
    · have hs := it_t c11 hs
      refine lv_tableIn (off := 118) (tgt := 164) F.1 F.2.1 dX6_reckon_46 (by rw [c11]; decide) (by rw [c11]; decide) (by rw [c11]; rfl) (by decide) ?_
      refine lv_aload_n F.1 F.2.1 dX6_reckon_164 rfl (lv_at hl 3 rfl) ?_
      refine lv_iload_n F.1 F.2.1 dX6_reckon_165 rfl (lv_at hl 1 rfl) ?_
      refine lv_iload_n F.1 F.2.1 dX6_reckon_166 rfl (lv_at hl 2 rfl) ?_
      refine lv_ior F.1 F.2.1 dX6_reckon_167 ?_
      obtain ⟨r11, M10, h11, hs⟩ := bn2_some hs
      refine x_callI (rest := []) wv_X6_193 F hS (fun _ h => h) hS.2.1 (tX6_put l G A q hq h11) hP (x_recv (ci := 4) F hP rfl (by decide) (eC_1 G q _)) rfl hl.1 rfl ⟨Nat.le_of_ble_eq_true rfl, Nat.le_of_ble_eq_true rfl⟩ ⟨Nat.le_refl _, Nat.le_refl _⟩ (Nat.le_of_ble_eq_true rfl) dX6_reckon_168 (fun H locs hP hS _ _ => ?_)
      cases hs
      exact x_iret F rfl rfl hP hS dX6_reckon_171
    have hs := it_f c11 hs
    by_cases c12 : (opSw.getD (ix (opOrd.getD w1 0)) 0) = 16
    · have hs := it_t c12 hs
      refine lv_tableIn (off := 126) (tgt := 172) F.1 F.2.1 dX6_reckon_46 (by rw [c12]; decide) (by rw [c12]; decide) (by rw [c12]; rfl) (by decide) ?_
      refine lv_aload_n F.1 F.2.1 dX6_reckon_172 rfl (lv_at hl 3 rfl) ?_
      refine lv_iload_n F.1 F.2.1 dX6_reckon_173 rfl (lv_at hl 1 rfl) ?_
      refine lv_iload_n F.1 F.2.1 dX6_reckon_174 rfl (lv_at hl 2 rfl) ?_
      refine lv_ixor F.1 F.2.1 dX6_reckon_175 ?_
      obtain ⟨r12, M11, h12, hs⟩ := bn2_some hs
      refine x_callI (rest := []) wv_X6_193 F hS (fun _ h => h) hS.2.1 (tX6_put l G A q hq h12) hP (x_recv (ci := 4) F hP rfl (by decide) (eC_1 G q _)) rfl hl.1 rfl ⟨Nat.le_of_ble_eq_true rfl, Nat.le_of_ble_eq_true rfl⟩ ⟨Nat.le_refl _, Nat.le_refl _⟩ (Nat.le_of_ble_eq_true rfl) dX6_reckon_176 (fun H locs hP hS _ _ => ?_)
      cases hs
      exact x_iret F rfl rfl hP hS dX6_reckon_179
    have hs := it_f c12 hs
    by_cases c13 : (opSw.getD (ix (opOrd.getD w1 0)) 0) = 17
    · have hs := it_t c13 hs
      refine lv_tableIn (off := 134) (tgt := 180) F.1 F.2.1 dX6_reckon_46 (by rw [c13]; decide) (by rw [c13]; decide) (by rw [c13]; rfl) (by decide) ?_
      refine lv_aload_n F.1 F.2.1 dX6_reckon_180 rfl (lv_at hl 3 rfl) ?_
      refine lv_iload_n F.1 F.2.1 dX6_reckon_181 rfl (lv_at hl 1 rfl) ?_
      refine lv_iload F.1 F.2.1 dX6_reckon_182 (lv_at hl 0 rfl) ?_
      refine lv_ishl F.1 F.2.1 dX6_reckon_184 ?_
      obtain ⟨r13, M12, h13, hs⟩ := bn2_some hs
      refine x_callI (rest := []) wv_X6_193 F hS (fun _ h => h) hS.2.1 (tX6_put l G A q hq h13) hP (x_recv (ci := 4) F hP rfl (by decide) (eC_1 G q _)) rfl hl.1 rfl ⟨Nat.le_of_ble_eq_true rfl, Nat.le_of_ble_eq_true rfl⟩ ⟨Nat.le_refl _, Nat.le_refl _⟩ (Nat.le_of_ble_eq_true rfl) dX6_reckon_185 (fun H locs hP hS _ _ => ?_)
      cases hs
      exact x_iret F rfl rfl hP hS dX6_reckon_188
    have hs := it_f c13 hs
    by_cases c14 : (opSw.getD (ix (opOrd.getD w1 0)) 0) = 18
    · have hs := it_t c14 hs
      refine lv_tableIn (off := 143) (tgt := 189) F.1 F.2.1 dX6_reckon_46 (by rw [c14]; decide) (by rw [c14]; decide) (by rw [c14]; rfl) (by decide) ?_
      refine lv_aload_n F.1 F.2.1 dX6_reckon_189 rfl (lv_at hl 3 rfl) ?_
      refine lv_iload_n F.1 F.2.1 dX6_reckon_190 rfl (lv_at hl 1 rfl) ?_
      refine lv_iload F.1 F.2.1 dX6_reckon_191 (lv_at hl 0 rfl) ?_
      refine lv_ishr F.1 F.2.1 dX6_reckon_193 ?_
      obtain ⟨r14, M13, h14, hs⟩ := bn2_some hs
      refine x_callI (rest := []) wv_X6_193 F hS (fun _ h => h) hS.2.1 (tX6_put l G A q hq h14) hP (x_recv (ci := 4) F hP rfl (by decide) (eC_1 G q _)) rfl hl.1 rfl ⟨Nat.le_of_ble_eq_true rfl, Nat.le_of_ble_eq_true rfl⟩ ⟨Nat.le_refl _, Nat.le_refl _⟩ (Nat.le_of_ble_eq_true rfl) dX6_reckon_194 (fun H locs hP hS _ _ => ?_)
      cases hs
      exact x_iret F rfl rfl hP hS dX6_reckon_197
    have hs := it_f c14 hs
    cases hs
  have hs := it_t c1 hs
  refine lv_aload_n F.1 F.2.1 dX6_reckon_15 rfl (lv_at hl 1 rfl) ?_
  refine lv_iload_n F.1 F.2.1 dX6_reckon_16 rfl (lv_at hl 0 rfl) ?_
  refine lv_ineg F.1 F.2.1 dX6_reckon_17 ?_
  obtain ⟨r15, M14, h15, hs⟩ := bn2_some hs
  refine x_callI (rest := []) wv_X6_193 F hS (fun _ h => h) hS.2.1 (tX6_put l G A q hq h15) hP (x_recv (ci := 4) F hP rfl (by decide) (eC_1 G q _)) rfl hl.1 rfl ⟨Nat.le_of_ble_eq_true rfl, Nat.le_of_ble_eq_true rfl⟩ ⟨Nat.le_refl _, Nat.le_refl _⟩ (Nat.le_of_ble_eq_true rfl) dX6_reckon_18 (fun H locs hP hS _ _ => ?_)
  cases hs
  exact x_iret F rfl rfl hP hS dX6_reckon_21

def pX6_holds (x0 : Int32) (x1 : Int32) : Option Int32 :=
  if (x0).toInt < 0 ∨ 4 < (x0).toInt then
    if 0 < x1 then
      some 0
    else
      some 1
  else
  if (x0) = 0 then
    if x1 = 0 then
      some 1
    else
      some 0
  else
  if (x0) = 1 then
    if x1 = 0 then
      some 0
    else
      some 1
  else
  if (x0) = 2 then
    if 0 ≤ x1 then
      some 0
    else
      some 1
  else
  if (x0) = 3 then
    if x1 < 0 then
      some 0
    else
      some 1
  else
  if (x0) = 4 then
    if x1 ≤ 0 then
      some 0
    else
      some 1
  else
    none
set_option maxHeartbeats 4000000 in
set_option maxRecDepth 100000 in
theorem tX6_holds (l : Launch) (G : zG) (A : Nat → Prop) (P0 : Heap → Prop) {r : Int32} {x0 : Int32} {x1 : Int32} (hs : pX6_holds x0 x1 = some r) : zKI l yX6_holds cX6_holds 2 (some .boolean) 0 0 G A P0 [.int x0, .int x1] r P0 := by
  refine zKI_of (by decide) (Nat.le_of_ble_eq_true rfl) (fun p e s m args below meth c H ls F hH hP hl => ?_)
  have F : zFx p s m args meth c cX6_holds RX6 2 (some .boolean) G A := F
  have hS : va_S A s.heap H [] := hH ▸ va_S.rf
  have hl : lv_has ls 2 [(0, .int x0), (1, .int x1)] := hl
  rw [pX6_holds] at hs
  refine lv_iload_n F.1 F.2.1 dX6_holds_0 rfl (lv_at hl 0 rfl) ?_
  by_cases c1 : (x0).toInt < 0 ∨ 4 < (x0).toInt
  · have hs := it_t c1 hs
    refine lv_tableOut (tgt := 86) F.1 F.2.1 dX6_holds_1 c1 (by decide) ?_
    refine lv_iload_n F.1 F.2.1 dX6_holds_86 rfl (lv_at hl 1 rfl) ?_
    refine lv_if_gt (tgt := 94) F.1 F.2.1 dX6_holds_87 (by decide) (fun c2 => ?_) (fun c2 => ?_)
    · have hs := it_t c2 hs
      refine lv_iconst (v := 0) F.1 F.2.1 dX6_holds_94 rfl ?_
      cases hs
      exact x_iret F rfl rfl hP hS dX6_holds_95
    have hs := it_f c2 hs
    refine lv_iconst (v := 1) F.1 F.2.1 dX6_holds_90 rfl ?_
    refine lv_goto (tgt := 95) F.1 F.2.1 dX6_holds_91 (by decide) ?_
    cases hs
    exact x_iret F rfl rfl hP hS dX6_holds_95
  have hs := it_f c1 hs
  by_cases c3 : (x0) = 0
  · have hs := it_t c3 hs
    refine lv_tableIn (off := 35) (tgt := 36) F.1 F.2.1 dX6_holds_1 (by rw [c3]; decide) (by rw [c3]; decide) (by rw [c3]; rfl) (by decide) ?_
    refine lv_iload_n F.1 F.2.1 dX6_holds_36 rfl (lv_at hl 1 rfl) ?_
    refine lv_if_ne (tgt := 44) F.1 F.2.1 dX6_holds_37 (by decide) (fun c4 => ?_) (fun c4 => ?_)
    · have hs := it_f c4 hs
      refine lv_iconst (v := 0) F.1 F.2.1 dX6_holds_44 rfl ?_
      cases hs
      exact x_iret F rfl rfl hP hS dX6_holds_45
    have hs := it_t c4 hs
    refine lv_iconst (v := 1) F.1 F.2.1 dX6_holds_40 rfl ?_
    refine lv_goto (tgt := 45) F.1 F.2.1 dX6_holds_41 (by decide) ?_
    cases hs
    exact x_iret F rfl rfl hP hS dX6_holds_45
  have hs := it_f c3 hs
  by_cases c5 : (x0) = 1
  · have hs := it_t c5 hs
    refine lv_tableIn (off := 45) (tgt := 46) F.1 F.2.1 dX6_holds_1 (by rw [c5]; decide) (by rw [c5]; decide) (by rw [c5]; rfl) (by decide) ?_
    refine lv_iload_n F.1 F.2.1 dX6_holds_46 rfl (lv_at hl 1 rfl) ?_
    refine lv_if_eq (tgt := 54) F.1 F.2.1 dX6_holds_47 (by decide) (fun c6 => ?_) (fun c6 => ?_)
    · have hs := it_t c6 hs
      refine lv_iconst (v := 0) F.1 F.2.1 dX6_holds_54 rfl ?_
      cases hs
      exact x_iret F rfl rfl hP hS dX6_holds_55
    have hs := it_f c6 hs
    refine lv_iconst (v := 1) F.1 F.2.1 dX6_holds_50 rfl ?_
    refine lv_goto (tgt := 55) F.1 F.2.1 dX6_holds_51 (by decide) ?_
    cases hs
    exact x_iret F rfl rfl hP hS dX6_holds_55
  have hs := it_f c5 hs
  by_cases c7 : (x0) = 2
  · have hs := it_t c7 hs
    refine lv_tableIn (off := 55) (tgt := 56) F.1 F.2.1 dX6_holds_1 (by rw [c7]; decide) (by rw [c7]; decide) (by rw [c7]; rfl) (by decide) ?_
    refine lv_iload_n F.1 F.2.1 dX6_holds_56 rfl (lv_at hl 1 rfl) ?_
    refine lv_if_ge (tgt := 64) F.1 F.2.1 dX6_holds_57 (by decide) (fun c8 => ?_) (fun c8 => ?_)
    · have hs := it_t c8 hs
      refine lv_iconst (v := 0) F.1 F.2.1 dX6_holds_64 rfl ?_
      cases hs
      exact x_iret F rfl rfl hP hS dX6_holds_65
    have hs := it_f c8 hs
    refine lv_iconst (v := 1) F.1 F.2.1 dX6_holds_60 rfl ?_
    refine lv_goto (tgt := 65) F.1 F.2.1 dX6_holds_61 (by decide) ?_
    cases hs
    exact x_iret F rfl rfl hP hS dX6_holds_65
  have hs := it_f c7 hs
  by_cases c9 : (x0) = 3
  · have hs := it_t c9 hs
    refine lv_tableIn (off := 65) (tgt := 66) F.1 F.2.1 dX6_holds_1 (by rw [c9]; decide) (by rw [c9]; decide) (by rw [c9]; rfl) (by decide) ?_
    refine lv_iload_n F.1 F.2.1 dX6_holds_66 rfl (lv_at hl 1 rfl) ?_
    refine lv_if_lt (tgt := 74) F.1 F.2.1 dX6_holds_67 (by decide) (fun c10 => ?_) (fun c10 => ?_)
    · have hs := it_t c10 hs
      refine lv_iconst (v := 0) F.1 F.2.1 dX6_holds_74 rfl ?_
      cases hs
      exact x_iret F rfl rfl hP hS dX6_holds_75
    have hs := it_f c10 hs
    refine lv_iconst (v := 1) F.1 F.2.1 dX6_holds_70 rfl ?_
    refine lv_goto (tgt := 75) F.1 F.2.1 dX6_holds_71 (by decide) ?_
    cases hs
    exact x_iret F rfl rfl hP hS dX6_holds_75
  have hs := it_f c9 hs
  by_cases c11 : (x0) = 4
  · have hs := it_t c11 hs
    refine lv_tableIn (off := 75) (tgt := 76) F.1 F.2.1 dX6_holds_1 (by rw [c11]; decide) (by rw [c11]; decide) (by rw [c11]; rfl) (by decide) ?_
    refine lv_iload_n F.1 F.2.1 dX6_holds_76 rfl (lv_at hl 1 rfl) ?_
    refine lv_if_le (tgt := 84) F.1 F.2.1 dX6_holds_77 (by decide) (fun c12 => ?_) (fun c12 => ?_)
    · have hs := it_t c12 hs
      refine lv_iconst (v := 0) F.1 F.2.1 dX6_holds_84 rfl ?_
      cases hs
      exact x_iret F rfl rfl hP hS dX6_holds_85
    have hs := it_f c12 hs
    refine lv_iconst (v := 1) F.1 F.2.1 dX6_holds_80 rfl ?_
    refine lv_goto (tgt := 85) F.1 F.2.1 dX6_holds_81 (by decide) ?_
    cases hs
    exact x_iret F rfl rfl hP hS dX6_holds_85
  have hs := it_f c11 hs
  cases hs

def pX6_jump_b45 (M : St) (t0 : Int32) : Option (Int32 × St) :=
  bn (pX6_unsigned M 1) fun r1 =>
  ic (M 1 10) 8 fun k1 =>
  bn2 (pX2_pop M k1) fun r2 M1 =>
  bn (pX6_holds (r1 - r1 / 6 * 6) (r2 - t0)) fun r3 =>
  if r3 = 0 then
    some (65536, M1)
  else
    ic (M1 1 10) 8 fun k2 =>
    bn (pX6_signed M1 2) fun r4 =>
    lt (up2 M1 (27 + k2) 4 ((M1 1 11) + r4)) fun M2 =>
    some (65536, M2)
def pX6_jump (M : St) (w1 : Nat) : Option (Int32 × St) :=
  if w1 = 21 then
    ic (M 1 10) 8 fun k2 =>
    bn (pX6_signed M 1) fun r2 =>
    lt (up2 M (27 + k2) 4 ((M 1 11) + r2)) fun M2 =>
    some (65536, M2)
  else
    if w1 = 23 then
      ic (M 1 10) 8 fun k1 =>
      bn2 (pX2_pop M k1) fun r1 M1 =>
      pX6_jump_b45 M1 r1
    else
      pX6_jump_b45 M 0
set_option maxHeartbeats 4000000 in
set_option maxRecDepth 100000 in
theorem tX6_jump_b45 {G : zG} {A : Nat → Prop} {q : Nat → Nat} (hq : zQD A 58 q) {M M' : St} {r : Int32} {t0 : Int32} (hs : pX6_jump_b45 M t0 = some (r, M')) {p : Program} {l : Launch} {e : Env} {s : State} {m : MethodId} {args : Array Value} {below : List Frame} {meth : Method} {c : Code} {H : Heap} {locs : List Loc} {ls : Array Slot} (F : zFx p s m args meth c cX6_jump RX6 3 (some .int) G A) (hP : (zP G.1 58 q (eC G q) M) H) (hS : va_S A s.heap H locs) (hl : lv_has ls 3 [(0, .ref (q 1))]) : W p l e { frames := 1, cells := 0, slots := 0, locals := 21 } s m args below meth c H locs 0 0 (MQ below (va_Qi (fun (r' : Int32) (_ : Unit) => r' = r) (fun _ U => (zP G.1 58 q (eC G q) M') U.heap) A) args s 0 0 A) (F0 m 45 ls [.int t0]) := by
  rw [pX6_jump_b45] at hs
  refine lv_istore_n (lv' := [(2, .int t0), (0, .ref (q 1))]) F.1 F.2.1 dX6_jump_45 rfl hl (by decide) rfl (fun ls hl => ?_)
  refine lv_aload_n F.1 F.2.1 dX6_jump_46 rfl (lv_at hl 1 rfl) ?_
  refine lv_iconst (v := 1) F.1 F.2.1 dX6_jump_47 rfl ?_
  obtain ⟨r1, h1, hs⟩ := bn_some hs
  refine x_callI (rest := []) wv_X6_196 F hS (fun _ h => h) hS.2.1 (tX6_unsigned l G A q hq h1) hP (x_recv (ci := 4) F hP rfl (by decide) (eC_1 G q _)) rfl hl.1 rfl ⟨Nat.le_of_ble_eq_true rfl, Nat.le_of_ble_eq_true rfl⟩ ⟨Nat.le_refl _, Nat.le_refl _⟩ (Nat.le_of_ble_eq_true rfl) dX6_jump_48 (fun H locs hP hS _ _ => ?_)
  refine lv_bipush (v := 6) F.1 F.2.1 dX6_jump_51 rfl ?_
  refine lv_irem F.1 F.2.1 dX6_jump_53 (by decide) ?_
  refine lv_aload_n F.1 F.2.1 dX6_jump_54 rfl (lv_at hl 1 rfl) ?_
  obtain ⟨k1, hik1, hxk1, hk1, hs⟩ := ic_some hs
  refine gC_X6_99 hik1 hxk1 F hP dX6_jump_55 ?_
  obtain ⟨r2, M1, h2, hs⟩ := bn2_some hs
  refine x_callI (rest := [.int (r1 - r1 / 6 * 6)]) wv_X6_202 F hS (fun _ h => h) hS.2.1 (tX2_pop l G A q hq hk1 h2) hP (x_recv (ci := 1) F hP rfl (by have := hk1; omega) (eC_F G q hk1 _)) rfl hl.1 rfl ⟨Nat.le_of_ble_eq_true rfl, Nat.le_of_ble_eq_true rfl⟩ ⟨Nat.le_refl _, Nat.le_refl _⟩ (Nat.le_of_ble_eq_true rfl) dX6_jump_58 (fun H locs hP hS _ _ => ?_)
  refine lv_iload_n F.1 F.2.1 dX6_jump_61 rfl (lv_at hl 0 rfl) ?_
  refine lv_isub F.1 F.2.1 dX6_jump_62 ?_
  obtain ⟨r3, h3, hs⟩ := bn_some hs
  refine x_callSI (rest := []) wv_X6_231 F hS (fun _ h => h) hS.2.1 (tX6_holds l G A (zP G.1 58 q (eC G q) M1) h3) hP rfl hl.1 rfl ⟨Nat.le_of_ble_eq_true rfl, Nat.le_of_ble_eq_true rfl⟩ ⟨Nat.le_refl _, Nat.le_refl _⟩ (Nat.le_of_ble_eq_true rfl) dX6_jump_63 (fun H locs hP hS _ _ => ?_)
  refine lv_if_eq (tgt := 86) F.1 F.2.1 dX6_jump_66 (by decide) (fun c1 => ?_) (fun c1 => ?_)
  · have hs := it_t c1 hs
    refine lv_ldc (v := 65536) F.1 F.2.1 F.2.2.2.1 (F.ws m_1_67) dX6_jump_86 ?_
    cases hs
    exact x_iret F rfl rfl hP hS dX6_jump_88
  have hs := it_f c1 hs
  refine lv_aload_n F.1 F.2.1 dX6_jump_69 rfl (lv_at hl 1 rfl) ?_
  obtain ⟨k2, hik2, hxk2, hk2, hs⟩ := ic_some hs
  refine gC_X6_99 hik2 hxk2 F hP dX6_jump_70 ?_
  refine lv_aload_n F.1 F.2.1 dX6_jump_73 rfl (lv_at hl 1 rfl) ?_
  refine gC_X6_106 F hP dX6_jump_74 ?_
  refine lv_aload_n F.1 F.2.1 dX6_jump_77 rfl (lv_at hl 1 rfl) ?_
  refine lv_iconst (v := 2) F.1 F.2.1 dX6_jump_78 rfl ?_
  obtain ⟨r4, h4, hs⟩ := bn_some hs
  refine x_callI (rest := [.int (M1 1 11), .ref (q (27 + k2))]) wv_X6_189 F hS (fun _ h => h) hS.2.1 (tX6_signed l G A q hq h4) hP (x_recv (ci := 4) F hP rfl (by decide) (eC_1 G q _)) rfl hl.1 rfl ⟨Nat.le_of_ble_eq_true rfl, Nat.le_of_ble_eq_true rfl⟩ ⟨Nat.le_refl _, Nat.le_refl _⟩ (Nat.le_of_ble_eq_true rfl) dX6_jump_79 (fun H locs hP hS _ _ => ?_)
  refine lv_iadd F.1 F.2.1 dX6_jump_82 ?_
  obtain ⟨M2, eM2, hs⟩ := lt_some hs
  refine hC_X6_103 hk2 F hq hP hS eM2 dX6_jump_83 (fun H locs hP hS => ?_)
  refine lv_ldc (v := 65536) F.1 F.2.1 F.2.2.2.1 (F.ws m_1_67) dX6_jump_86 ?_
  cases hs
  exact x_iret F rfl rfl hP hS dX6_jump_88
set_option maxHeartbeats 4000000 in
set_option maxRecDepth 100000 in
theorem tX6_jump (l : Launch) (G : zG) (A : Nat → Prop) (q : Nat → Nat) (hq : zQD A 58 q) {M M' : St} {r : Int32} {w1 : Nat} (hw1 : w1 < 46) (hs : pX6_jump M w1 = some (r, M')) : zKI l yX6_jump cX6_jump 3 (some .int) 1 21 G A (zP G.1 58 q (eC G q) M) [.ref (q 1), .ref (G.2.2.1 w1)] r (zP G.1 58 q (eC G q) M') := by
  refine zKI_of (by decide) (Nat.le_of_ble_eq_true rfl) (fun p e s m args below meth c H ls F hH hP hl => ?_)
  have F : zFx p s m args meth c cX6_jump RX6 3 (some .int) G A := F
  have hS : va_S A s.heap H [] := hH ▸ va_S.rf
  have hl : lv_has ls 3 [(0, .ref (q 1)), (1, .ref (G.2.2.1 w1))] := hl
  rw [pX6_jump] at hs
  refine lv_aload_n F.1 F.2.1 dX6_jump_0 rfl (lv_at hl 1 rfl) ?_
  refine x_constE (i := 21) (by decide) (by decide) m_1_130 F hS dX6_jump_1 ?_
  refine x_acmp_ne (tgt := 27) F hw1 (show 21 < 46 by decide) dX6_jump_4 (by decide) (fun c1 => ?_) (fun c1 => ?_)
  · have hs := it_f c1 hs
    refine lv_aload_n F.1 F.2.1 dX6_jump_27 rfl (lv_at hl 1 rfl) ?_
    refine x_constE (i := 23) (by decide) (by decide) m_1_132 F hS dX6_jump_28 ?_
    refine x_acmp_ne (tgt := 44) F hw1 (show 23 < 46 by decide) dX6_jump_31 (by decide) (fun c2 => ?_) (fun c2 => ?_)
    · have hs := it_f c2 hs
      refine lv_iconst (v := 0) F.1 F.2.1 dX6_jump_44 rfl ?_
      exact tX6_jump_b45 hq hs F hP hS (lv_sub hl [0] rfl)
    have hs := it_t c2 hs
    refine lv_aload_n F.1 F.2.1 dX6_jump_34 rfl (lv_at hl 0 rfl) ?_
    obtain ⟨k1, hik1, hxk1, hk1, hs⟩ := ic_some hs
    refine gC_X6_99 hik1 hxk1 F hP dX6_jump_35 ?_
    obtain ⟨r1, M1, h1, hs⟩ := bn2_some hs
    refine x_callI (rest := []) wv_X6_202 F hS (fun _ h => h) hS.2.1 (tX2_pop l G A q hq hk1 h1) hP (x_recv (ci := 1) F hP rfl (by have := hk1; omega) (eC_F G q hk1 _)) rfl hl.1 rfl ⟨Nat.le_of_ble_eq_true rfl, Nat.le_of_ble_eq_true rfl⟩ ⟨Nat.le_refl _, Nat.le_refl _⟩ (Nat.le_of_ble_eq_true rfl) dX6_jump_38 (fun H locs hP hS _ _ => ?_)
    refine lv_goto (tgt := 45) F.1 F.2.1 dX6_jump_41 (by decide) ?_
    exact tX6_jump_b45 hq hs F hP hS (lv_sub hl [0] rfl)
  have hs := it_t c1 hs
  refine lv_aload_n F.1 F.2.1 dX6_jump_7 rfl (lv_at hl 0 rfl) ?_
  obtain ⟨k2, hik2, hxk2, hk2, hs⟩ := ic_some hs
  refine gC_X6_99 hik2 hxk2 F hP dX6_jump_8 ?_
  refine lv_aload_n F.1 F.2.1 dX6_jump_11 rfl (lv_at hl 0 rfl) ?_
  refine gC_X6_106 F hP dX6_jump_12 ?_
  refine lv_aload_n F.1 F.2.1 dX6_jump_15 rfl (lv_at hl 0 rfl) ?_
  refine lv_iconst (v := 1) F.1 F.2.1 dX6_jump_16 rfl ?_
  obtain ⟨r2, h2, hs⟩ := bn_some hs
  refine x_callI (rest := [.int (M 1 11), .ref (q (27 + k2))]) wv_X6_189 F hS (fun _ h => h) hS.2.1 (tX6_signed l G A q hq h2) hP (x_recv (ci := 4) F hP rfl (by decide) (eC_1 G q _)) rfl hl.1 rfl ⟨Nat.le_of_ble_eq_true rfl, Nat.le_of_ble_eq_true rfl⟩ ⟨Nat.le_refl _, Nat.le_refl _⟩ (Nat.le_of_ble_eq_true rfl) dX6_jump_17 (fun H locs hP hS _ _ => ?_)
  refine lv_iadd F.1 F.2.1 dX6_jump_20 ?_
  obtain ⟨M2, eM2, hs⟩ := lt_some hs
  refine hC_X6_103 hk2 F hq hP hS eM2 dX6_jump_21 (fun H locs hP hS => ?_)
  refine lv_ldc (v := 65536) F.1 F.2.1 F.2.2.2.1 (F.ws m_1_67) dX6_jump_24 ?_
  cases hs
  exact x_iret F rfl rfl hP hS dX6_jump_26

def pX6_leave (M : St) : Option St :=
  lt (up2 M 1 9 ((M 1 9) - 1)) fun M1 =>
  if M1 1 9 ≤ 0 then
    some M1
  else
    ic ((M1 1 9) - 1) 8 fun k1 =>
    lt (up2 M1 1 10 (nI k1)) fun M2 =>
    some M2
set_option maxHeartbeats 4000000 in
set_option maxRecDepth 100000 in
theorem tX6_leave (l : Launch) (G : zG) (A : Nat → Prop) (q : Nat → Nat) (hq : zQD A 58 q) {M M' : St} (hs : pX6_leave M = some M') : zKV l yX6_leave cX6_leave 1 0 0 G A (zP G.1 58 q (eC G q) M) [.ref (q 1)] (zP G.1 58 q (eC G q) M') := by
  refine zKV_of (by decide) (Nat.le_of_ble_eq_true rfl) (fun p e s m args below meth c H ls F hH hP hl => ?_)
  have F : zFx p s m args meth c cX6_leave RX6 1 none G A := F
  have hS : va_S A s.heap H [] := hH ▸ va_S.rf
  have hl : lv_has ls 1 [(0, .ref (q 1))] := hl
  rw [pX6_leave] at hs
  refine lv_aload_n F.1 F.2.1 dX6_leave_0 rfl (lv_at hl 0 rfl) ?_
  refine lv_dup F.1 F.2.1 dX6_leave_1 rfl ?_
  refine gC_X6_92 F hP dX6_leave_2 ?_
  refine lv_iconst (v := 1) F.1 F.2.1 dX6_leave_5 rfl ?_
  refine lv_isub F.1 F.2.1 dX6_leave_6 ?_
  obtain ⟨M1, eM1, hs⟩ := lt_some hs
  refine hC_X6_92 F hq hP hS eM1 dX6_leave_7 (fun H locs hP hS => ?_)
  refine lv_aload_n F.1 F.2.1 dX6_leave_10 rfl (lv_at hl 0 rfl) ?_
  refine gC_X6_92 F hP dX6_leave_11 ?_
  refine lv_if_le (tgt := 32) F.1 F.2.1 dX6_leave_14 (by decide) (fun c1 => ?_) (fun c1 => ?_)
  · have hs := it_t c1 hs
    cases hs
    exact x_vret F hP hS dX6_leave_32
  have hs := it_f c1 hs
  refine lv_aload_n F.1 F.2.1 dX6_leave_17 rfl (lv_at hl 0 rfl) ?_
  refine lv_aload_n F.1 F.2.1 dX6_leave_18 rfl (lv_at hl 0 rfl) ?_
  refine gC_X6_40 F hP dX6_leave_19 ?_
  refine lv_aload_n F.1 F.2.1 dX6_leave_22 rfl (lv_at hl 0 rfl) ?_
  refine gC_X6_92 F hP dX6_leave_23 ?_
  refine lv_iconst (v := 1) F.1 F.2.1 dX6_leave_26 rfl ?_
  refine lv_isub F.1 F.2.1 dX6_leave_27 ?_
  obtain ⟨k1, hik1, hxk1, hk1, hs⟩ := ic_some hs
  refine x_aaldF hxk1 F hP (aqC_F G q) hik1 dX6_leave_28 ?_
  obtain ⟨M2, eM2, hs⟩ := lt_some hs
  refine hC_X6_99 hk1 F hq hP hS eM2 dX6_leave_29 (fun H locs hP hS => ?_)
  cases hs
  exact x_vret F hP hS dX6_leave_32

def pX6_end (M : St) : Option (Int32 × St) :=
  bn (pX6_leave M) fun M1 =>
  if M1 1 9 = 0 then
    lt (up2 M1 1 13 0) fun M2 =>
    some (65536, M2)
  else
    some (65536, M1)
set_option maxHeartbeats 4000000 in
set_option maxRecDepth 100000 in
theorem tX6_end (l : Launch) (G : zG) (A : Nat → Prop) (q : Nat → Nat) (hq : zQD A 58 q) {M M' : St} {r : Int32} (hs : pX6_end M = some (r, M')) : zKI l yX6_end cX6_end 1 (some .int) 1 20 G A (zP G.1 58 q (eC G q) M) [.ref (q 1)] r (zP G.1 58 q (eC G q) M') := by
  refine zKI_of (by decide) (Nat.le_of_ble_eq_true rfl) (fun p e s m args below meth c H ls F hH hP hl => ?_)
  have F : zFx p s m args meth c cX6_end RX6 1 (some .int) G A := F
  have hS : va_S A s.heap H [] := hH ▸ va_S.rf
  have hl : lv_has ls 1 [(0, .ref (q 1))] := hl
  rw [pX6_end] at hs
  refine lv_aload_n F.1 F.2.1 dX6_end_0 rfl (lv_at hl 0 rfl) ?_
  obtain ⟨M1, h1, hs⟩ := bn_some hs
  refine x_callV (rest := []) wv_X6_173 F hS (fun _ h => h) hS.2.1 (tX6_leave l G A q hq h1) hP (x_recv (ci := 4) F hP rfl (by decide) (eC_1 G q _)) rfl hl.1 rfl ⟨Nat.le_of_ble_eq_true rfl, Nat.le_of_ble_eq_true rfl⟩ ⟨Nat.le_refl _, Nat.le_refl _⟩ (Nat.le_of_ble_eq_true rfl) dX6_end_1 (fun H locs hP hS _ _ => ?_)
  refine lv_aload_n F.1 F.2.1 dX6_end_4 rfl (lv_at hl 0 rfl) ?_
  refine gC_X6_92 F hP dX6_end_5 ?_
  refine lv_if_ne (tgt := 16) F.1 F.2.1 dX6_end_8 (by decide) (fun c1 => ?_) (fun c1 => ?_)
  · have hs := it_f c1 hs
    refine lv_ldc (v := 65536) F.1 F.2.1 F.2.2.2.1 (F.ws m_1_67) dX6_end_16 ?_
    cases hs
    exact x_iret F rfl rfl hP hS dX6_end_18
  have hs := it_t c1 hs
  refine lv_aload_n F.1 F.2.1 dX6_end_11 rfl (lv_at hl 0 rfl) ?_
  refine lv_iconst (v := 0) F.1 F.2.1 dX6_end_12 rfl ?_
  obtain ⟨M2, eM2, hs⟩ := lt_some hs
  refine hC_X6_54 F hq hP hS eM2 dX6_end_13 (fun H locs hP hS => ?_)
  refine lv_ldc (v := 65536) F.1 F.2.1 F.2.2.2.1 (F.ws m_1_67) dX6_end_16 ?_
  cases hs
  exact x_iret F rfl rfl hP hS dX6_end_18

def pX6_endWith (M : St) (x1 : Int32) : Option (Int32 × St) :=
  bn2 (pX6_end M) fun r1 M1 =>
  if M1 1 9 = 0 then
    lt (up2 M1 1 6 x1) fun M3 =>
    some (65536, M3)
  else
    ic (M1 1 10) 8 fun k1 =>
    bn (pX2_hasRoom M1 k1 1) fun r2 =>
    if r2 = 0 then
      some (6, M1)
    else
      bn2 (pX6_put M1 x1) fun r3 M2 =>
      some (r3, M2)
set_option maxHeartbeats 4000000 in
set_option maxRecDepth 100000 in
theorem tX6_endWith (l : Launch) (G : zG) (A : Nat → Prop) (q : Nat → Nat) (hq : zQD A 58 q) {M M' : St} {r : Int32} {x1 : Int32} (hs : pX6_endWith M x1 = some (r, M')) : zKI l yX6_endWith cX6_endWith 2 (some .int) 2 42 G A (zP G.1 58 q (eC G q) M) [.ref (q 1), .int x1] r (zP G.1 58 q (eC G q) M') := by
  refine zKI_of (by decide) (Nat.le_of_ble_eq_true rfl) (fun p e s m args below meth c H ls F hH hP hl => ?_)
  have F : zFx p s m args meth c cX6_endWith RX6 2 (some .int) G A := F
  have hS : va_S A s.heap H [] := hH ▸ va_S.rf
  have hl : lv_has ls 2 [(0, .ref (q 1)), (1, .int x1)] := hl
  rw [pX6_endWith] at hs
  refine lv_aload_n F.1 F.2.1 dX6_endWith_0 rfl (lv_at hl 0 rfl) ?_
  obtain ⟨r1, M1, h1, hs⟩ := bn2_some hs
  refine x_callI (rest := []) wv_X6_235 F hS (fun _ h => h) hS.2.1 (tX6_end l G A q hq h1) hP (x_recv (ci := 4) F hP rfl (by decide) (eC_1 G q _)) rfl hl.1 rfl ⟨Nat.le_of_ble_eq_true rfl, Nat.le_of_ble_eq_true rfl⟩ ⟨Nat.le_refl _, Nat.le_refl _⟩ (Nat.le_of_ble_eq_true rfl) dX6_endWith_1 (fun H locs hP hS _ _ => ?_)
  refine lv_pop F.1 F.2.1 dX6_endWith_4 rfl ?_
  refine lv_aload_n F.1 F.2.1 dX6_endWith_5 rfl (lv_at hl 0 rfl) ?_
  refine gC_X6_92 F hP dX6_endWith_6 ?_
  refine lv_if_ne (tgt := 20) F.1 F.2.1 dX6_endWith_9 (by decide) (fun c1 => ?_) (fun c1 => ?_)
  · have hs := it_f c1 hs
    refine lv_aload_n F.1 F.2.1 dX6_endWith_20 rfl (lv_at hl 0 rfl) ?_
    obtain ⟨k1, hik1, hxk1, hk1, hs⟩ := ic_some hs
    refine gC_X6_99 hik1 hxk1 F hP dX6_endWith_21 ?_
    refine lv_iconst (v := 1) F.1 F.2.1 dX6_endWith_24 rfl ?_
    obtain ⟨r2, h2, hs⟩ := bn_some hs
    refine x_callI (rest := []) wv_X6_163 F hS (fun _ h => h) hS.2.1 (tX2_hasRoom l G A q hq hk1 h2) hP (x_recv (ci := 1) F hP rfl (by have := hk1; omega) (eC_F G q hk1 _)) rfl hl.1 rfl ⟨Nat.le_of_ble_eq_true rfl, Nat.le_of_ble_eq_true rfl⟩ ⟨Nat.le_refl _, Nat.le_refl _⟩ (Nat.le_of_ble_eq_true rfl) dX6_endWith_25 (fun H locs hP hS _ _ => ?_)
    refine lv_if_eq (tgt := 39) F.1 F.2.1 dX6_endWith_28 (by decide) (fun c2 => ?_) (fun c2 => ?_)
    · have hs := it_t c2 hs
      refine lv_bipush (v := 6) F.1 F.2.1 dX6_endWith_39 rfl ?_
      cases hs
      exact x_iret F rfl rfl hP hS dX6_endWith_41
    have hs := it_f c2 hs
    refine lv_aload_n F.1 F.2.1 dX6_endWith_31 rfl (lv_at hl 0 rfl) ?_
    refine lv_iload_n F.1 F.2.1 dX6_endWith_32 rfl (lv_at hl 1 rfl) ?_
    obtain ⟨r3, M2, h3, hs⟩ := bn2_some hs
    refine x_callI (rest := []) wv_X6_193 F hS (fun _ h => h) hS.2.1 (tX6_put l G A q hq h3) hP (x_recv (ci := 4) F hP rfl (by decide) (eC_1 G q _)) rfl hl.1 rfl ⟨Nat.le_of_ble_eq_true rfl, Nat.le_of_ble_eq_true rfl⟩ ⟨Nat.le_refl _, Nat.le_refl _⟩ (Nat.le_of_ble_eq_true rfl) dX6_endWith_33 (fun H locs hP hS _ _ => ?_)
    refine lv_goto (tgt := 41) F.1 F.2.1 dX6_endWith_36 (by decide) ?_
    cases hs
    exact x_iret F rfl rfl hP hS dX6_endWith_41
  have hs := it_t c1 hs
  refine lv_aload_n F.1 F.2.1 dX6_endWith_12 rfl (lv_at hl 0 rfl) ?_
  refine lv_iload_n F.1 F.2.1 dX6_endWith_13 rfl (lv_at hl 1 rfl) ?_
  obtain ⟨M3, eM3, hs⟩ := lt_some hs
  refine hC_X6_89 F hq hP hS eM3 dX6_endWith_14 (fun H locs hP hS => ?_)
  refine lv_ldc (v := 65536) F.1 F.2.1 F.2.2.2.1 (F.ws m_1_67) dX6_endWith_17 ?_
  cases hs
  exact x_iret F rfl rfl hP hS dX6_endWith_19

def pX6_call_b98 : Nat → St → Nat → Int32 → Option (Int32 × St)
  | 0, _, _, _ => none
  | n + 1, M, kx4, x5 =>
    if x5 < 0 then
      some (65536, M)
    else
      ic (M 1 10) 8 fun k1 =>
      bn2 (pX2_pop M kx4) fun r1 M1 =>
      gd (inb x5 8) <|
      lt (up2 M1 (35 + k1) (ix x5) r1) fun M2 =>
      pX6_call_b98 n M2 kx4 (x5 + (-1))
def pX6_call_b70 (M : St) (kx2 : Nat) (x3 : Int32) : Option (Int32 × St) :=
  if M 1 9 = 8 then
    some (6, M)
  else
    ic (M 1 10) 8 fun k1 =>
    bn (pX6_enter M kx2) fun M1 =>
    pX6_call_b98 LF M1 k1 (x3 - 1)
def pX6_call (M : St) (w1 : Nat) : Option (Int32 × St) :=
  bn (pX6_unsigned M 1) fun r1 =>
  ic (r1 - r1 / 16 * 16) 16 fun k1 =>
  bn (pX6_unsigned M 2) fun r2 =>
  ic (M 1 10) 8 fun k2 =>
  if r2 - r2 / 9 * 9 ≤ M (27 + k2) 2 then
    if w1 = 24 then
      ic (M 1 10) 8 fun k3 =>
      if M (6 + k1) 0 = M (27 + k3) 3 then
        pX6_call_b70 M k1 (r2 - r2 / 9 * 9)
      else
        some (4, M)
    else
      if M (6 + k1) 2 = 0 then
        some (4, M)
      else
        pX6_call_b70 M k1 (r2 - r2 / 9 * 9)
  else
    some (6, M)
set_option maxHeartbeats 4000000 in
set_option maxRecDepth 100000 in
theorem tX6_call_b98 (n : Nat) {G : zG} {A : Nat → Prop} {q : Nat → Nat} (hq : zQD A 58 q) {M' : St} {r : Int32} : ∀ {M : St} {kx4 : Nat} {x5 : Int32} (hkx4 : kx4 < 8) (hs : pX6_call_b98 n M kx4 x5 = some (r, M')) {p : Program} {l : Launch} {e : Env} {s : State} {m : MethodId} {args : Array Value} {below : List Frame} {meth : Method} {c : Code} {H : Heap} {locs : List Loc} {ls : Array Slot} (F : zFx p s m args meth c cX6_call RX6 6 (some .int) G A) (hP : (zP G.1 58 q (eC G q) M) H) (hS : va_S A s.heap H locs) (hl : lv_has ls 6 [(0, .ref (q 1)), (4, .ref (q (27 + kx4))), (5, .int x5)]), W p l e { frames := 3, cells := 0, slots := 0, locals := 65 } s m args below meth c H locs 0 0 (MQ below (va_Qi (fun (r' : Int32) (_ : Unit) => r' = r) (fun _ U => (zP G.1 58 q (eC G q) M') U.heap) A) args s 0 0 A) (F0 m 98 ls []) := by
  induction n with
  | zero =>
    intro M kx4 x5 hkx4 hs p l e s m args below meth c H locs ls F hP hS hl
    rw [pX6_call_b98] at hs
    cases hs
  | succ n ih =>
    intro M kx4 x5 hkx4 hs p l e s m args below meth c H locs ls F hP hS hl
    rw [pX6_call_b98] at hs
    refine lv_iload F.1 F.2.1 dX6_call_98 (lv_at hl 2 rfl) ?_
    refine lv_if_lt (tgt := 124) F.1 F.2.1 dX6_call_100 (by decide) (fun c1 => ?_) (fun c1 => ?_)
    · have hs := it_t c1 hs
      refine lv_ldc (v := 65536) F.1 F.2.1 F.2.2.2.1 (F.ws m_1_67) dX6_call_124 ?_
      cases hs
      exact x_iret F rfl rfl hP hS dX6_call_126
    have hs := it_f c1 hs
    refine lv_aload_n F.1 F.2.1 dX6_call_103 rfl (lv_at hl 0 rfl) ?_
    obtain ⟨k1, hik1, hxk1, hk1, hs⟩ := ic_some hs
    refine gC_X6_99 hik1 hxk1 F hP dX6_call_104 ?_
    refine gC_X6_199 hk1 F hP dX6_call_107 ?_
    refine lv_iload F.1 F.2.1 dX6_call_110 (lv_at hl 2 rfl) ?_
    refine lv_aload F.1 F.2.1 dX6_call_112 (lv_at hl 1 rfl) ?_
    obtain ⟨r1, M1, h1, hs⟩ := bn2_some hs
    refine x_callI (rest := [.int x5, .ref (q (35 + k1))]) wv_X6_202 F hS (fun _ h => h) hS.2.1 (tX2_pop l G A q hq hkx4 h1) hP (x_recv (ci := 1) F hP rfl (by have := hkx4; omega) (eC_F G q hkx4 _)) rfl hl.1 rfl ⟨Nat.le_of_ble_eq_true rfl, Nat.le_of_ble_eq_true rfl⟩ ⟨Nat.le_refl _, Nat.le_refl _⟩ (Nat.le_of_ble_eq_true rfl) dX6_call_114 (fun H locs hP hS _ _ => ?_)
    obtain ⟨g1, hs⟩ := gd_some hs
    obtain ⟨M2, eM2, hs⟩ := lt_some hs
    refine x_iast F hq hP hS (arC_l G q hk1) g1 eM2 dX6_call_117 (fun H locs hP hS => ?_)
    refine lv_iinc (v := x5 + (-1)) (lv' := [(5, .int (x5 + (-1))), (0, .ref (q 1)), (4, .ref (q (27 + kx4)))]) F.1 F.2.1 dX6_call_118 hl (k := 2) rfl rfl (by decide) rfl (fun ls hl => ?_)
    refine lv_goto (tgt := 98) F.1 F.2.1 dX6_call_121 (by decide) ?_
    exact ih hkx4 hs F hP hS (lv_sub hl [1, 2, 0] rfl)
set_option maxHeartbeats 4000000 in
set_option maxRecDepth 100000 in
theorem tX6_call_b70 {G : zG} {A : Nat → Prop} {q : Nat → Nat} (hq : zQD A 58 q) {M M' : St} {r : Int32} {kx2 : Nat} {x3 : Int32} (hkx2 : kx2 < 16) (hs : pX6_call_b70 M kx2 x3 = some (r, M')) {p : Program} {l : Launch} {e : Env} {s : State} {m : MethodId} {args : Array Value} {below : List Frame} {meth : Method} {c : Code} {H : Heap} {locs : List Loc} {ls : Array Slot} (F : zFx p s m args meth c cX6_call RX6 6 (some .int) G A) (hP : (zP G.1 58 q (eC G q) M) H) (hS : va_S A s.heap H locs) (hl : lv_has ls 6 [(0, .ref (q 1)), (2, .ref (q (6 + kx2))), (3, .int x3)]) : W p l e { frames := 3, cells := 0, slots := 0, locals := 65 } s m args below meth c H locs 0 0 (MQ below (va_Qi (fun (r' : Int32) (_ : Unit) => r' = r) (fun _ U => (zP G.1 58 q (eC G q) M') U.heap) A) args s 0 0 A) (F0 m 70 ls []) := by
  rw [pX6_call_b70] at hs
  refine lv_aload_n F.1 F.2.1 dX6_call_70 rfl (lv_at hl 0 rfl) ?_
  refine gC_X6_92 F hP dX6_call_71 ?_
  refine lv_bipush (v := 8) F.1 F.2.1 dX6_call_74 rfl ?_
  refine lv_icmp_ne (tgt := 82) F.1 F.2.1 dX6_call_76 (by decide) (fun c1 => ?_) (fun c1 => ?_)
  · have hs := it_f c1 hs
    refine lv_aload_n F.1 F.2.1 dX6_call_82 rfl (lv_at hl 0 rfl) ?_
    obtain ⟨k1, hik1, hxk1, hk1, hs⟩ := ic_some hs
    refine gC_X6_99 hik1 hxk1 F hP dX6_call_83 ?_
    refine lv_astore (lv' := [(4, .ref (q (27 + k1))), (0, .ref (q 1)), (2, .ref (q (6 + kx2))), (3, .int x3)]) F.1 F.2.1 dX6_call_86 hl (by decide) rfl (fun ls hl => ?_)
    refine lv_aload_n F.1 F.2.1 dX6_call_88 rfl (lv_at hl 1 rfl) ?_
    refine lv_aload_n F.1 F.2.1 dX6_call_89 rfl (lv_at hl 2 rfl) ?_
    obtain ⟨M1, h1, hs⟩ := bn_some hs
    refine x_callV (rest := []) wv_X6_95 F hS (fun _ h => h) hS.2.1 (tX6_enter l G A q hq hkx2 h1) hP (x_recv (ci := 4) F hP rfl (by decide) (eC_1 G q _)) rfl hl.1 rfl ⟨Nat.le_of_ble_eq_true rfl, Nat.le_of_ble_eq_true rfl⟩ ⟨Nat.le_refl _, Nat.le_refl _⟩ (Nat.le_of_ble_eq_true rfl) dX6_call_90 (fun H locs hP hS _ _ => ?_)
    refine lv_iload_n F.1 F.2.1 dX6_call_93 rfl (lv_at hl 3 rfl) ?_
    refine lv_iconst (v := 1) F.1 F.2.1 dX6_call_94 rfl ?_
    refine lv_isub F.1 F.2.1 dX6_call_95 ?_
    refine lv_istore (lv' := [(5, .int (x3 - 1)), (4, .ref (q (27 + k1))), (0, .ref (q 1)), (2, .ref (q (6 + kx2))), (3, .int x3)]) F.1 F.2.1 dX6_call_96 hl (by decide) rfl (fun ls hl => ?_)
    exact tX6_call_b98 LF hq hk1 hs F hP hS (lv_sub hl [2, 1, 0] rfl)
  have hs := it_t c1 hs
  refine lv_bipush (v := 6) F.1 F.2.1 dX6_call_79 rfl ?_
  cases hs
  exact x_iret F rfl rfl hP hS dX6_call_81
set_option maxHeartbeats 4000000 in
set_option maxRecDepth 100000 in
theorem tX6_call (l : Launch) (G : zG) (A : Nat → Prop) (q : Nat → Nat) (hq : zQD A 58 q) {M M' : St} {r : Int32} {w1 : Nat} (hw1 : w1 < 46) (hs : pX6_call M w1 = some (r, M')) : zKI l yX6_call cX6_call 6 (some .int) 3 65 G A (zP G.1 58 q (eC G q) M) [.ref (q 1), .ref (G.2.2.1 w1)] r (zP G.1 58 q (eC G q) M') := by
  refine zKI_of (by decide) (Nat.le_of_ble_eq_true rfl) (fun p e s m args below meth c H ls F hH hP hl => ?_)
  have F : zFx p s m args meth c cX6_call RX6 6 (some .int) G A := F
  have hS : va_S A s.heap H [] := hH ▸ va_S.rf
  have hl : lv_has ls 6 [(0, .ref (q 1)), (1, .ref (G.2.2.1 w1))] := hl
  rw [pX6_call] at hs
  refine lv_aload_n F.1 F.2.1 dX6_call_0 rfl (lv_at hl 0 rfl) ?_
  refine gC_X6_17 F hP dX6_call_1 ?_
  refine lv_aload_n F.1 F.2.1 dX6_call_4 rfl (lv_at hl 0 rfl) ?_
  refine lv_iconst (v := 1) F.1 F.2.1 dX6_call_5 rfl ?_
  obtain ⟨r1, h1, hs⟩ := bn_some hs
  refine x_callI (rest := [.ref (q 5)]) wv_X6_196 F hS (fun _ h => h) hS.2.1 (tX6_unsigned l G A q hq h1) hP (x_recv (ci := 4) F hP rfl (by decide) (eC_1 G q _)) rfl hl.1 rfl ⟨Nat.le_of_ble_eq_true rfl, Nat.le_of_ble_eq_true rfl⟩ ⟨Nat.le_refl _, Nat.le_refl _⟩ (Nat.le_of_ble_eq_true rfl) dX6_call_6 (fun H locs hP hS _ _ => ?_)
  refine lv_bipush (v := 16) F.1 F.2.1 dX6_call_9 rfl ?_
  refine lv_irem F.1 F.2.1 dX6_call_11 (by decide) ?_
  obtain ⟨k1, hik1, hxk1, hk1, hs⟩ := ic_some hs
  refine x_aaldM hxk1 F hP (aqC_M G q) hik1 dX6_call_12 ?_
  refine lv_astore_n (lv' := [(2, .ref (q (6 + k1))), (0, .ref (q 1)), (1, .ref (G.2.2.1 w1))]) F.1 F.2.1 dX6_call_13 rfl hl (by decide) rfl (fun ls hl => ?_)
  refine lv_aload_n F.1 F.2.1 dX6_call_14 rfl (lv_at hl 1 rfl) ?_
  refine lv_iconst (v := 2) F.1 F.2.1 dX6_call_15 rfl ?_
  obtain ⟨r2, h2, hs⟩ := bn_some hs
  refine x_callI (rest := []) wv_X6_196 F hS (fun _ h => h) hS.2.1 (tX6_unsigned l G A q hq h2) hP (x_recv (ci := 4) F hP rfl (by decide) (eC_1 G q _)) rfl hl.1 rfl ⟨Nat.le_of_ble_eq_true rfl, Nat.le_of_ble_eq_true rfl⟩ ⟨Nat.le_refl _, Nat.le_refl _⟩ (Nat.le_of_ble_eq_true rfl) dX6_call_16 (fun H locs hP hS _ _ => ?_)
  refine lv_bipush (v := 9) F.1 F.2.1 dX6_call_19 rfl ?_
  refine lv_irem F.1 F.2.1 dX6_call_21 (by decide) ?_
  refine lv_istore_n (lv' := [(3, .int (r2 - r2 / 9 * 9)), (2, .ref (q (6 + k1))), (0, .ref (q 1)), (1, .ref (G.2.2.1 w1))]) F.1 F.2.1 dX6_call_22 rfl hl (by decide) rfl (fun ls hl => ?_)
  refine lv_aload_n F.1 F.2.1 dX6_call_23 rfl (lv_at hl 2 rfl) ?_
  obtain ⟨k2, hik2, hxk2, hk2, hs⟩ := ic_some hs
  refine gC_X6_99 hik2 hxk2 F hP dX6_call_24 ?_
  refine gC_X6_147 hk2 F hP dX6_call_27 ?_
  refine lv_iload_n F.1 F.2.1 dX6_call_30 rfl (lv_at hl 0 rfl) ?_
  refine lv_icmp_ge (tgt := 37) F.1 F.2.1 dX6_call_31 (by decide) (fun c1 => ?_) (fun c1 => ?_)
  · have hs := it_t c1 hs
    refine lv_aload_n F.1 F.2.1 dX6_call_37 rfl (lv_at hl 3 rfl) ?_
    refine x_constE (i := 24) (by decide) (by decide) m_1_157 F hS dX6_call_38 ?_
    refine x_acmp_ne (tgt := 61) F hw1 (show 24 < 46 by decide) dX6_call_41 (by decide) (fun c2 => ?_) (fun c2 => ?_)
    · have hs := it_f c2 hs
      refine lv_aload_n F.1 F.2.1 dX6_call_61 rfl (lv_at hl 1 rfl) ?_
      refine gC_X6_251 hk1 F hP dX6_call_62 ?_
      refine lv_if_ne (tgt := 70) F.1 F.2.1 dX6_call_65 (by decide) (fun c3 => ?_) (fun c3 => ?_)
      · have hs := it_f c3 hs
        exact tX6_call_b70 hq hk1 hs F hP hS (lv_sub hl [2, 1, 0] rfl)
      have hs := it_t c3 hs
      refine lv_iconst (v := 4) F.1 F.2.1 dX6_call_68 rfl ?_
      cases hs
      exact x_iret F rfl rfl hP hS dX6_call_69
    have hs := it_t c2 hs
    refine lv_aload_n F.1 F.2.1 dX6_call_44 rfl (lv_at hl 1 rfl) ?_
    refine gC_X6_247 hk1 F hP dX6_call_45 ?_
    refine lv_aload_n F.1 F.2.1 dX6_call_48 rfl (lv_at hl 2 rfl) ?_
    obtain ⟨k3, hik3, hxk3, hk3, hs⟩ := ic_some hs
    refine gC_X6_99 hik3 hxk3 F hP dX6_call_49 ?_
    refine gC_X6_250 hk3 F hP dX6_call_52 ?_
    refine lv_icmp_eq (tgt := 70) F.1 F.2.1 dX6_call_55 (by decide) (fun c4 => ?_) (fun c4 => ?_)
    · have hs := it_t c4 hs
      exact tX6_call_b70 hq hk1 hs F hP hS (lv_sub hl [2, 1, 0] rfl)
    have hs := it_f c4 hs
    refine lv_goto (tgt := 68) F.1 F.2.1 dX6_call_58 (by decide) ?_
    refine lv_iconst (v := 4) F.1 F.2.1 dX6_call_68 rfl ?_
    cases hs
    exact x_iret F rfl rfl hP hS dX6_call_69
  have hs := it_f c1 hs
  refine lv_bipush (v := 6) F.1 F.2.1 dX6_call_34 rfl ?_
  cases hs
  exact x_iret F rfl rfl hP hS dX6_call_36

def pX6_callOrEnd (M : St) (w1 : Nat) : Option (Int32 × St) :=
  gd (inb (opOrd.getD w1 0) 46) <|
  if (opSw.getD (ix (opOrd.getD w1 0)) 0) = 19 then
    bn2 (pX6_end M) fun r1 M1 =>
    some (r1, M1)
  else
  if (opSw.getD (ix (opOrd.getD w1 0)) 0) = 20 then
    ic (M 1 10) 8 fun k1 =>
    bn2 (pX2_pop M k1) fun r2 M2 =>
    bn2 (pX6_endWith M2 r2) fun r3 M3 =>
    some (r3, M3)
  else
    bn2 (pX6_call M w1) fun r4 M4 =>
    some (r4, M4)
set_option maxHeartbeats 4000000 in
set_option maxRecDepth 100000 in
theorem tX6_callOrEnd (l : Launch) (G : zG) (A : Nat → Prop) (q : Nat → Nat) (hq : zQD A 58 q) {M M' : St} {r : Int32} {w1 : Nat} (hw1 : w1 < 46) (hs : pX6_callOrEnd M w1 = some (r, M')) : zKI l yX6_callOrEnd cX6_callOrEnd 2 (some .int) 4 90 G A (zP G.1 58 q (eC G q) M) [.ref (q 1), .ref (G.2.2.1 w1)] r (zP G.1 58 q (eC G q) M') := by
  refine zKI_of (by decide) (Nat.le_of_ble_eq_true rfl) (fun p e s m args below meth c H ls F hH hP hl => ?_)
  have F : zFx p s m args meth c cX6_callOrEnd RX6 2 (some .int) G A := F
  have hS : va_S A s.heap H [] := hH ▸ va_S.rf
  have hl : lv_has ls 2 [(0, .ref (q 1)), (1, .ref (G.2.2.1 w1))] := hl
  rw [pX6_callOrEnd] at hs
  refine x_getS m_1_76 F hS dX6_callOrEnd_0 ?_
  refine lv_aload_n F.1 F.2.1 dX6_callOrEnd_3 rfl (lv_at hl 1 rfl) ?_
  refine x_ord m_1_78 F hS hw1 hP hl.1 ⟨Nat.le_of_ble_eq_true rfl, Nat.le_of_ble_eq_true rfl⟩ ⟨Nat.le_refl _, Nat.le_refl _⟩ (rest := [.ref G.2.2.2.2]) (Nat.le_of_ble_eq_true rfl) dX6_callOrEnd_4 (fun H locs hP hS => ?_)
  obtain ⟨g1, hs⟩ := gd_some hs
  refine x_ialdS F hS g1 dX6_callOrEnd_7 ?_
  by_cases c1 : (opSw.getD (ix (opOrd.getD w1 0)) 0) = 19
  · have hs := it_t c1 hs
    refine lv_lookup (off := 28) (tgt := 36) F.1 F.2.1 dX6_callOrEnd_8 (by decide) (by rw [c1]; rfl) (by decide) ?_
    refine lv_aload_n F.1 F.2.1 dX6_callOrEnd_36 rfl (lv_at hl 0 rfl) ?_
    obtain ⟨r1, M1, h1, hs⟩ := bn2_some hs
    refine x_callI (rest := []) wv_X6_235 F hS (fun _ h => h) hS.2.1 (tX6_end l G A q hq h1) hP (x_recv (ci := 4) F hP rfl (by decide) (eC_1 G q _)) rfl hl.1 rfl ⟨Nat.le_of_ble_eq_true rfl, Nat.le_of_ble_eq_true rfl⟩ ⟨Nat.le_refl _, Nat.le_refl _⟩ (Nat.le_of_ble_eq_true rfl) dX6_callOrEnd_37 (fun H locs hP hS _ _ => ?_)
    cases hs
    exact x_iret F rfl rfl hP hS dX6_callOrEnd_40
  have hs := it_f c1 hs
  by_cases c2 : (opSw.getD (ix (opOrd.getD w1 0)) 0) = 20
  · have hs := it_t c2 hs
    refine lv_lookup (off := 33) (tgt := 41) F.1 F.2.1 dX6_callOrEnd_8 (by decide) (by rw [c2]; rfl) (by decide) ?_
    refine lv_aload_n F.1 F.2.1 dX6_callOrEnd_41 rfl (lv_at hl 0 rfl) ?_
    refine lv_aload_n F.1 F.2.1 dX6_callOrEnd_42 rfl (lv_at hl 0 rfl) ?_
    obtain ⟨k1, hik1, hxk1, hk1, hs⟩ := ic_some hs
    refine gC_X6_99 hik1 hxk1 F hP dX6_callOrEnd_43 ?_
    obtain ⟨r2, M2, h2, hs⟩ := bn2_some hs
    refine x_callI (rest := [.ref (q 1)]) wv_X6_202 F hS (fun _ h => h) hS.2.1 (tX2_pop l G A q hq hk1 h2) hP (x_recv (ci := 1) F hP rfl (by have := hk1; omega) (eC_F G q hk1 _)) rfl hl.1 rfl ⟨Nat.le_of_ble_eq_true rfl, Nat.le_of_ble_eq_true rfl⟩ ⟨Nat.le_refl _, Nat.le_refl _⟩ (Nat.le_of_ble_eq_true rfl) dX6_callOrEnd_46 (fun H locs hP hS _ _ => ?_)
    obtain ⟨r3, M3, h3, hs⟩ := bn2_some hs
    refine x_callI (rest := []) wv_X6_238 F hS (fun _ h => h) hS.2.1 (tX6_endWith l G A q hq h3) hP (x_recv (ci := 4) F hP rfl (by decide) (eC_1 G q _)) rfl hl.1 rfl ⟨Nat.le_of_ble_eq_true rfl, Nat.le_of_ble_eq_true rfl⟩ ⟨Nat.le_refl _, Nat.le_refl _⟩ (Nat.le_of_ble_eq_true rfl) dX6_callOrEnd_49 (fun H locs hP hS _ _ => ?_)
    cases hs
    exact x_iret F rfl rfl hP hS dX6_callOrEnd_52
  have hs := it_f c2 hs
  refine lv_lookup (off := 45) (tgt := 53) F.1 F.2.1 dX6_callOrEnd_8 (by decide) (by show Op.lookupswitch.offset [(19, 28), (20, 33)] 45 _ = _; rw [lv_osw (a := 19) c1 rfl, lv_osw (a := 20) c2 rfl]; rfl) (by decide) ?_
  refine lv_aload_n F.1 F.2.1 dX6_callOrEnd_53 rfl (lv_at hl 0 rfl) ?_
  refine lv_aload_n F.1 F.2.1 dX6_callOrEnd_54 rfl (lv_at hl 1 rfl) ?_
  obtain ⟨r4, M4, h4, hs⟩ := bn2_some hs
  refine x_callI (rest := []) wv_X6_241 F hS (fun _ h => h) hS.2.1 (tX6_call l G A q hq hw1 h4) hP (x_recv (ci := 4) F hP rfl (by decide) (eC_1 G q _)) rfl hl.1 rfl ⟨Nat.le_of_ble_eq_true rfl, Nat.le_of_ble_eq_true rfl⟩ ⟨Nat.le_refl _, Nat.le_refl _⟩ (Nat.le_of_ble_eq_true rfl) dX6_callOrEnd_55 (fun H locs hP hS _ _ => ?_)
  cases hs
  exact x_iret F rfl rfl hP hS dX6_callOrEnd_58

def pX6_copyCells (M : St) : Option (Int32 × St) :=
  ic (M 1 10) 8 fun k1 =>
  bn2 (pX2_pop M k1) fun r1 M1 =>
  ic (M1 1 10) 8 fun k2 =>
  bn2 (pX2_pop M1 k2) fun r2 M2 =>
  ic (M2 1 10) 8 fun k3 =>
  bn2 (pX2_pop M2 k3) fun r3 M3 =>
  ic (M3 1 10) 8 fun k4 =>
  bn2 (pX2_pop M3 k4) fun r4 M4 =>
  ic (M4 1 10) 8 fun k5 =>
  bn2 (pX2_pop M4 k5) fun r5 M5 =>
  ic (M5 1 10) 8 fun k6 =>
  bn (pX7_copyFault M5 (M5 (27 + k6) 3) r5 r4 r3 r2 r1) fun r6 =>
  if r6 = 65536 then
    if r1 ≤ (M5 1 12) - (M5 1 7) then
      lt (up2 M5 1 7 ((M5 1 7) + r1)) fun M6 =>
      bn (pX7_copy M6 r5 r4 r3 r2 r1) fun M7 =>
      some (65536, M7)
    else
      lt (up2 M5 1 13 10) fun M8 =>
      some (65536, M8)
  else
    some (r6, M5)
set_option maxHeartbeats 4000000 in
set_option maxRecDepth 100000 in
theorem tX6_copyCells (l : Launch) (G : zG) (A : Nat → Prop) (q : Nat → Nat) (hq : zQD A 58 q) {M M' : St} {r : Int32} (hs : pX6_copyCells M = some (r, M')) : zKI l yX6_copyCells cX6_copyCells 7 (some .int) 2 49 G A (zP G.1 58 q (eC G q) M) [.ref (q 1)] r (zP G.1 58 q (eC G q) M') := by
  refine zKI_of (by decide) (Nat.le_of_ble_eq_true rfl) (fun p e s m args below meth c H ls F hH hP hl => ?_)
  have F : zFx p s m args meth c cX6_copyCells RX6 7 (some .int) G A := F
  have hS : va_S A s.heap H [] := hH ▸ va_S.rf
  have hl : lv_has ls 7 [(0, .ref (q 1))] := hl
  rw [pX6_copyCells] at hs
  refine lv_aload_n F.1 F.2.1 dX6_copyCells_0 rfl (lv_at hl 0 rfl) ?_
  obtain ⟨k1, hik1, hxk1, hk1, hs⟩ := ic_some hs
  refine gC_X6_99 hik1 hxk1 F hP dX6_copyCells_1 ?_
  obtain ⟨r1, M1, h1, hs⟩ := bn2_some hs
  refine x_callI (rest := []) wv_X6_202 F hS (fun _ h => h) hS.2.1 (tX2_pop l G A q hq hk1 h1) hP (x_recv (ci := 1) F hP rfl (by have := hk1; omega) (eC_F G q hk1 _)) rfl hl.1 rfl ⟨Nat.le_of_ble_eq_true rfl, Nat.le_of_ble_eq_true rfl⟩ ⟨Nat.le_refl _, Nat.le_refl _⟩ (Nat.le_of_ble_eq_true rfl) dX6_copyCells_4 (fun H locs hP hS _ _ => ?_)
  refine lv_istore_n (lv' := [(1, .int r1), (0, .ref (q 1))]) F.1 F.2.1 dX6_copyCells_7 rfl hl (by decide) rfl (fun ls hl => ?_)
  refine lv_aload_n F.1 F.2.1 dX6_copyCells_8 rfl (lv_at hl 1 rfl) ?_
  obtain ⟨k2, hik2, hxk2, hk2, hs⟩ := ic_some hs
  refine gC_X6_99 hik2 hxk2 F hP dX6_copyCells_9 ?_
  obtain ⟨r2, M2, h2, hs⟩ := bn2_some hs
  refine x_callI (rest := []) wv_X6_202 F hS (fun _ h => h) hS.2.1 (tX2_pop l G A q hq hk2 h2) hP (x_recv (ci := 1) F hP rfl (by have := hk2; omega) (eC_F G q hk2 _)) rfl hl.1 rfl ⟨Nat.le_of_ble_eq_true rfl, Nat.le_of_ble_eq_true rfl⟩ ⟨Nat.le_refl _, Nat.le_refl _⟩ (Nat.le_of_ble_eq_true rfl) dX6_copyCells_12 (fun H locs hP hS _ _ => ?_)
  refine lv_istore_n (lv' := [(2, .int r2), (1, .int r1), (0, .ref (q 1))]) F.1 F.2.1 dX6_copyCells_15 rfl hl (by decide) rfl (fun ls hl => ?_)
  refine lv_aload_n F.1 F.2.1 dX6_copyCells_16 rfl (lv_at hl 2 rfl) ?_
  obtain ⟨k3, hik3, hxk3, hk3, hs⟩ := ic_some hs
  refine gC_X6_99 hik3 hxk3 F hP dX6_copyCells_17 ?_
  obtain ⟨r3, M3, h3, hs⟩ := bn2_some hs
  refine x_callI (rest := []) wv_X6_202 F hS (fun _ h => h) hS.2.1 (tX2_pop l G A q hq hk3 h3) hP (x_recv (ci := 1) F hP rfl (by have := hk3; omega) (eC_F G q hk3 _)) rfl hl.1 rfl ⟨Nat.le_of_ble_eq_true rfl, Nat.le_of_ble_eq_true rfl⟩ ⟨Nat.le_refl _, Nat.le_refl _⟩ (Nat.le_of_ble_eq_true rfl) dX6_copyCells_20 (fun H locs hP hS _ _ => ?_)
  refine lv_istore_n (lv' := [(3, .int r3), (2, .int r2), (1, .int r1), (0, .ref (q 1))]) F.1 F.2.1 dX6_copyCells_23 rfl hl (by decide) rfl (fun ls hl => ?_)
  refine lv_aload_n F.1 F.2.1 dX6_copyCells_24 rfl (lv_at hl 3 rfl) ?_
  obtain ⟨k4, hik4, hxk4, hk4, hs⟩ := ic_some hs
  refine gC_X6_99 hik4 hxk4 F hP dX6_copyCells_25 ?_
  obtain ⟨r4, M4, h4, hs⟩ := bn2_some hs
  refine x_callI (rest := []) wv_X6_202 F hS (fun _ h => h) hS.2.1 (tX2_pop l G A q hq hk4 h4) hP (x_recv (ci := 1) F hP rfl (by have := hk4; omega) (eC_F G q hk4 _)) rfl hl.1 rfl ⟨Nat.le_of_ble_eq_true rfl, Nat.le_of_ble_eq_true rfl⟩ ⟨Nat.le_refl _, Nat.le_refl _⟩ (Nat.le_of_ble_eq_true rfl) dX6_copyCells_28 (fun H locs hP hS _ _ => ?_)
  refine lv_istore (lv' := [(4, .int r4), (3, .int r3), (2, .int r2), (1, .int r1), (0, .ref (q 1))]) F.1 F.2.1 dX6_copyCells_31 hl (by decide) rfl (fun ls hl => ?_)
  refine lv_aload_n F.1 F.2.1 dX6_copyCells_33 rfl (lv_at hl 4 rfl) ?_
  obtain ⟨k5, hik5, hxk5, hk5, hs⟩ := ic_some hs
  refine gC_X6_99 hik5 hxk5 F hP dX6_copyCells_34 ?_
  obtain ⟨r5, M5, h5, hs⟩ := bn2_some hs
  refine x_callI (rest := []) wv_X6_202 F hS (fun _ h => h) hS.2.1 (tX2_pop l G A q hq hk5 h5) hP (x_recv (ci := 1) F hP rfl (by have := hk5; omega) (eC_F G q hk5 _)) rfl hl.1 rfl ⟨Nat.le_of_ble_eq_true rfl, Nat.le_of_ble_eq_true rfl⟩ ⟨Nat.le_refl _, Nat.le_refl _⟩ (Nat.le_of_ble_eq_true rfl) dX6_copyCells_37 (fun H locs hP hS _ _ => ?_)
  refine lv_istore (lv' := [(5, .int r5), (4, .int r4), (3, .int r3), (2, .int r2), (1, .int r1), (0, .ref (q 1))]) F.1 F.2.1 dX6_copyCells_40 hl (by decide) rfl (fun ls hl => ?_)
  refine lv_aload_n F.1 F.2.1 dX6_copyCells_42 rfl (lv_at hl 5 rfl) ?_
  refine gC_X6_24 F hP dX6_copyCells_43 ?_
  refine lv_aload_n F.1 F.2.1 dX6_copyCells_46 rfl (lv_at hl 5 rfl) ?_
  obtain ⟨k6, hik6, hxk6, hk6, hs⟩ := ic_some hs
  refine gC_X6_99 hik6 hxk6 F hP dX6_copyCells_47 ?_
  refine gC_X6_250 hk6 F hP dX6_copyCells_50 ?_
  refine lv_iload F.1 F.2.1 dX6_copyCells_53 (lv_at hl 0 rfl) ?_
  refine lv_iload F.1 F.2.1 dX6_copyCells_55 (lv_at hl 1 rfl) ?_
  refine lv_iload_n F.1 F.2.1 dX6_copyCells_57 rfl (lv_at hl 2 rfl) ?_
  refine lv_iload_n F.1 F.2.1 dX6_copyCells_58 rfl (lv_at hl 3 rfl) ?_
  refine lv_iload_n F.1 F.2.1 dX6_copyCells_59 rfl (lv_at hl 4 rfl) ?_
  obtain ⟨r6, h6, hs⟩ := bn_some hs
  refine x_callI (rest := []) wv_X6_301 F hS (fun _ h => h) hS.2.1 (tX7_copyFault l G A q hq h6) hP (x_recv (ci := 5) F hP rfl (by decide) (eC_2 G q _)) rfl hl.1 rfl ⟨Nat.le_of_ble_eq_true rfl, Nat.le_of_ble_eq_true rfl⟩ ⟨Nat.le_refl _, Nat.le_refl _⟩ (Nat.le_of_ble_eq_true rfl) dX6_copyCells_60 (fun H locs hP hS _ _ => ?_)
  refine lv_istore (lv' := [(6, .int r6), (5, .int r5), (4, .int r4), (3, .int r3), (2, .int r2), (1, .int r1), (0, .ref (q 1))]) F.1 F.2.1 dX6_copyCells_63 hl (by decide) rfl (fun ls hl => ?_)
  refine lv_iload F.1 F.2.1 dX6_copyCells_65 (lv_at hl 0 rfl) ?_
  refine lv_ldc (v := 65536) F.1 F.2.1 F.2.2.2.1 (F.ws m_1_67) dX6_copyCells_67 ?_
  refine lv_icmp_eq (tgt := 75) F.1 F.2.1 dX6_copyCells_69 (by decide) (fun c1 => ?_) (fun c1 => ?_)
  · have hs := it_t c1 hs
    refine lv_iload_n F.1 F.2.1 dX6_copyCells_75 rfl (lv_at hl 5 rfl) ?_
    refine lv_aload_n F.1 F.2.1 dX6_copyCells_76 rfl (lv_at hl 6 rfl) ?_
    refine gC_X6_50 F hP dX6_copyCells_77 ?_
    refine lv_aload_n F.1 F.2.1 dX6_copyCells_80 rfl (lv_at hl 6 rfl) ?_
    refine gC_X6_67 F hP dX6_copyCells_81 ?_
    refine lv_isub F.1 F.2.1 dX6_copyCells_84 ?_
    refine lv_icmp_le (tgt := 97) F.1 F.2.1 dX6_copyCells_85 (by decide) (fun c2 => ?_) (fun c2 => ?_)
    · have hs := it_t c2 hs
      refine lv_aload_n F.1 F.2.1 dX6_copyCells_97 rfl (lv_at hl 6 rfl) ?_
      refine lv_dup F.1 F.2.1 dX6_copyCells_98 rfl ?_
      refine gC_X6_67 F hP dX6_copyCells_99 ?_
      refine lv_iload_n F.1 F.2.1 dX6_copyCells_102 rfl (lv_at hl 5 rfl) ?_
      refine lv_iadd F.1 F.2.1 dX6_copyCells_103 ?_
      obtain ⟨M6, eM6, hs⟩ := lt_some hs
      refine hC_X6_67 F hq hP hS eM6 dX6_copyCells_104 (fun H locs hP hS => ?_)
      refine lv_aload_n F.1 F.2.1 dX6_copyCells_107 rfl (lv_at hl 6 rfl) ?_
      refine gC_X6_24 F hP dX6_copyCells_108 ?_
      refine lv_iload F.1 F.2.1 dX6_copyCells_111 (lv_at hl 1 rfl) ?_
      refine lv_iload F.1 F.2.1 dX6_copyCells_113 (lv_at hl 2 rfl) ?_
      refine lv_iload_n F.1 F.2.1 dX6_copyCells_115 rfl (lv_at hl 3 rfl) ?_
      refine lv_iload_n F.1 F.2.1 dX6_copyCells_116 rfl (lv_at hl 4 rfl) ?_
      refine lv_iload_n F.1 F.2.1 dX6_copyCells_117 rfl (lv_at hl 5 rfl) ?_
      obtain ⟨M7, h7, hs⟩ := bn_some hs
      refine x_callV (rest := []) wv_X6_305 F hS (fun _ h => h) hS.2.1 (tX7_copy l G A q hq h7) hP (x_recv (ci := 5) F hP rfl (by decide) (eC_2 G q _)) rfl hl.1 rfl ⟨Nat.le_of_ble_eq_true rfl, Nat.le_of_ble_eq_true rfl⟩ ⟨Nat.le_refl _, Nat.le_refl _⟩ (Nat.le_of_ble_eq_true rfl) dX6_copyCells_118 (fun H locs hP hS _ _ => ?_)
      refine lv_ldc (v := 65536) F.1 F.2.1 F.2.2.2.1 (F.ws m_1_67) dX6_copyCells_121 ?_
      cases hs
      exact x_iret F rfl rfl hP hS dX6_copyCells_123
    have hs := it_f c2 hs
    refine lv_aload_n F.1 F.2.1 dX6_copyCells_88 rfl (lv_at hl 6 rfl) ?_
    refine lv_bipush (v := 10) F.1 F.2.1 dX6_copyCells_89 rfl ?_
    obtain ⟨M8, eM8, hs⟩ := lt_some hs
    refine hC_X6_54 F hq hP hS eM8 dX6_copyCells_91 (fun H locs hP hS => ?_)
    refine lv_ldc (v := 65536) F.1 F.2.1 F.2.2.2.1 (F.ws m_1_67) dX6_copyCells_94 ?_
    cases hs
    exact x_iret F rfl rfl hP hS dX6_copyCells_96
  have hs := it_f c1 hs
  refine lv_iload F.1 F.2.1 dX6_copyCells_72 (lv_at hl 0 rfl) ?_
  cases hs
  exact x_iret F rfl rfl hP hS dX6_copyCells_74

def pX6_makeObject (M : St) (x1 : Int32) : Option (Int32 × St) :=
  bn (pX6_unsigned M 1) fun r1 =>
  bn (pX7_makeFault M r1) fun r2 =>
  if r2 = 65536 then
    ic (M 1 10) 8 fun k1 =>
    bn (pX2_hasRoom M k1 1) fun r3 =>
    if r3 = 0 then
      some (6, M)
    else
      ic (M 1 10) 8 fun k2 =>
      bn2 (pX7_make M (M (27 + k2) 3) x1 r1) fun r4 M1 =>
      bn2 (pX6_put M1 r4) fun r5 M2 =>
      some (r5, M2)
  else
    some (r2, M)
set_option maxHeartbeats 4000000 in
set_option maxRecDepth 100000 in
theorem tX6_makeObject (l : Launch) (G : zG) (A : Nat → Prop) (q : Nat → Nat) (hq : zQD A 58 q) {M M' : St} {r : Int32} {x1 : Int32} (hs : pX6_makeObject M x1 = some (r, M')) : zKI l yX6_makeObject cX6_makeObject 4 (some .int) 4 92 G A (zP G.1 58 q (eC G q) M) [.ref (q 1), .int x1] r (zP G.1 58 q (eC G q) M') := by
  refine zKI_of (by decide) (Nat.le_of_ble_eq_true rfl) (fun p e s m args below meth c H ls F hH hP hl => ?_)
  have F : zFx p s m args meth c cX6_makeObject RX6 4 (some .int) G A := F
  have hS : va_S A s.heap H [] := hH ▸ va_S.rf
  have hl : lv_has ls 4 [(0, .ref (q 1)), (1, .int x1)] := hl
  rw [pX6_makeObject] at hs
  refine lv_aload_n F.1 F.2.1 dX6_makeObject_0 rfl (lv_at hl 0 rfl) ?_
  refine lv_iconst (v := 1) F.1 F.2.1 dX6_makeObject_1 rfl ?_
  obtain ⟨r1, h1, hs⟩ := bn_some hs
  refine x_callI (rest := []) wv_X6_196 F hS (fun _ h => h) hS.2.1 (tX6_unsigned l G A q hq h1) hP (x_recv (ci := 4) F hP rfl (by decide) (eC_1 G q _)) rfl hl.1 rfl ⟨Nat.le_of_ble_eq_true rfl, Nat.le_of_ble_eq_true rfl⟩ ⟨Nat.le_refl _, Nat.le_refl _⟩ (Nat.le_of_ble_eq_true rfl) dX6_makeObject_2 (fun H locs hP hS _ _ => ?_)
  refine lv_istore_n (lv' := [(2, .int r1), (0, .ref (q 1)), (1, .int x1)]) F.1 F.2.1 dX6_makeObject_5 rfl hl (by decide) rfl (fun ls hl => ?_)
  refine lv_aload_n F.1 F.2.1 dX6_makeObject_6 rfl (lv_at hl 1 rfl) ?_
  refine gC_X6_24 F hP dX6_makeObject_7 ?_
  refine lv_iload_n F.1 F.2.1 dX6_makeObject_10 rfl (lv_at hl 0 rfl) ?_
  obtain ⟨r2, h2, hs⟩ := bn_some hs
  refine x_callI (rest := []) wv_X6_272 F hS (fun _ h => h) hS.2.1 (tX7_makeFault l G A q hq h2) hP (x_recv (ci := 5) F hP rfl (by decide) (eC_2 G q _)) rfl hl.1 rfl ⟨Nat.le_of_ble_eq_true rfl, Nat.le_of_ble_eq_true rfl⟩ ⟨Nat.le_refl _, Nat.le_refl _⟩ (Nat.le_of_ble_eq_true rfl) dX6_makeObject_11 (fun H locs hP hS _ _ => ?_)
  refine lv_istore_n (lv' := [(3, .int r2), (2, .int r1), (0, .ref (q 1)), (1, .int x1)]) F.1 F.2.1 dX6_makeObject_14 rfl hl (by decide) rfl (fun ls hl => ?_)
  refine lv_iload_n F.1 F.2.1 dX6_makeObject_15 rfl (lv_at hl 0 rfl) ?_
  refine lv_ldc (v := 65536) F.1 F.2.1 F.2.2.2.1 (F.ws m_1_67) dX6_makeObject_16 ?_
  refine lv_icmp_eq (tgt := 23) F.1 F.2.1 dX6_makeObject_18 (by decide) (fun c1 => ?_) (fun c1 => ?_)
  · have hs := it_t c1 hs
    refine lv_aload_n F.1 F.2.1 dX6_makeObject_23 rfl (lv_at hl 2 rfl) ?_
    obtain ⟨k1, hik1, hxk1, hk1, hs⟩ := ic_some hs
    refine gC_X6_99 hik1 hxk1 F hP dX6_makeObject_24 ?_
    refine lv_iconst (v := 1) F.1 F.2.1 dX6_makeObject_27 rfl ?_
    obtain ⟨r3, h3, hs⟩ := bn_some hs
    refine x_callI (rest := []) wv_X6_163 F hS (fun _ h => h) hS.2.1 (tX2_hasRoom l G A q hq hk1 h3) hP (x_recv (ci := 1) F hP rfl (by have := hk1; omega) (eC_F G q hk1 _)) rfl hl.1 rfl ⟨Nat.le_of_ble_eq_true rfl, Nat.le_of_ble_eq_true rfl⟩ ⟨Nat.le_refl _, Nat.le_refl _⟩ (Nat.le_of_ble_eq_true rfl) dX6_makeObject_28 (fun H locs hP hS _ _ => ?_)
    refine lv_if_ne (tgt := 37) F.1 F.2.1 dX6_makeObject_31 (by decide) (fun c2 => ?_) (fun c2 => ?_)
    · have hs := it_f c2 hs
      refine lv_aload_n F.1 F.2.1 dX6_makeObject_37 rfl (lv_at hl 2 rfl) ?_
      refine lv_aload_n F.1 F.2.1 dX6_makeObject_38 rfl (lv_at hl 2 rfl) ?_
      refine gC_X6_24 F hP dX6_makeObject_39 ?_
      refine lv_aload_n F.1 F.2.1 dX6_makeObject_42 rfl (lv_at hl 2 rfl) ?_
      obtain ⟨k2, hik2, hxk2, hk2, hs⟩ := ic_some hs
      refine gC_X6_99 hik2 hxk2 F hP dX6_makeObject_43 ?_
      refine gC_X6_250 hk2 F hP dX6_makeObject_46 ?_
      refine lv_iload_n F.1 F.2.1 dX6_makeObject_49 rfl (lv_at hl 3 rfl) ?_
      refine lv_iload_n F.1 F.2.1 dX6_makeObject_50 rfl (lv_at hl 1 rfl) ?_
      obtain ⟨r4, M1, h4, hs⟩ := bn2_some hs
      refine x_callI (rest := [.ref (q 1)]) wv_X6_275 F hS (fun _ h => h) hS.2.1 (tX7_make l G A q hq h4) hP (x_recv (ci := 5) F hP rfl (by decide) (eC_2 G q _)) rfl hl.1 rfl ⟨Nat.le_of_ble_eq_true rfl, Nat.le_of_ble_eq_true rfl⟩ ⟨Nat.le_refl _, Nat.le_refl _⟩ (Nat.le_of_ble_eq_true rfl) dX6_makeObject_51 (fun H locs hP hS _ _ => ?_)
      obtain ⟨r5, M2, h5, hs⟩ := bn2_some hs
      refine x_callI (rest := []) wv_X6_193 F hS (fun _ h => h) hS.2.1 (tX6_put l G A q hq h5) hP (x_recv (ci := 4) F hP rfl (by decide) (eC_1 G q _)) rfl hl.1 rfl ⟨Nat.le_of_ble_eq_true rfl, Nat.le_of_ble_eq_true rfl⟩ ⟨Nat.le_refl _, Nat.le_refl _⟩ (Nat.le_of_ble_eq_true rfl) dX6_makeObject_54 (fun H locs hP hS _ _ => ?_)
      cases hs
      exact x_iret F rfl rfl hP hS dX6_makeObject_57
    have hs := it_t c2 hs
    refine lv_bipush (v := 6) F.1 F.2.1 dX6_makeObject_34 rfl ?_
    cases hs
    exact x_iret F rfl rfl hP hS dX6_makeObject_36
  have hs := it_f c1 hs
  refine lv_iload_n F.1 F.2.1 dX6_makeObject_21 rfl (lv_at hl 0 rfl) ?_
  cases hs
  exact x_iret F rfl rfl hP hS dX6_makeObject_22

def pX6_readCell (M : St) : Option (Int32 × St) :=
  ic (M 1 10) 8 fun k1 =>
  bn2 (pX2_pop M k1) fun r1 M1 =>
  ic (M1 1 10) 8 fun k2 =>
  bn2 (pX2_pop M1 k2) fun r2 M2 =>
  ic (M2 1 10) 8 fun k3 =>
  bn (pX7_cellFault M2 (M2 (27 + k3) 3) r2 r1) fun r3 =>
  if r3 = 65536 then
    bn (pX7_read M2 r2 r1) fun r4 =>
    bn2 (pX6_put M2 r4) fun r5 M3 =>
    some (r5, M3)
  else
    some (r3, M2)
set_option maxHeartbeats 4000000 in
set_option maxRecDepth 100000 in
theorem tX6_readCell (l : Launch) (G : zG) (A : Nat → Prop) (q : Nat → Nat) (hq : zQD A 58 q) {M M' : St} {r : Int32} (hs : pX6_readCell M = some (r, M')) : zKI l yX6_readCell cX6_readCell 4 (some .int) 2 46 G A (zP G.1 58 q (eC G q) M) [.ref (q 1)] r (zP G.1 58 q (eC G q) M') := by
  refine zKI_of (by decide) (Nat.le_of_ble_eq_true rfl) (fun p e s m args below meth c H ls F hH hP hl => ?_)
  have F : zFx p s m args meth c cX6_readCell RX6 4 (some .int) G A := F
  have hS : va_S A s.heap H [] := hH ▸ va_S.rf
  have hl : lv_has ls 4 [(0, .ref (q 1))] := hl
  rw [pX6_readCell] at hs
  refine lv_aload_n F.1 F.2.1 dX6_readCell_0 rfl (lv_at hl 0 rfl) ?_
  obtain ⟨k1, hik1, hxk1, hk1, hs⟩ := ic_some hs
  refine gC_X6_99 hik1 hxk1 F hP dX6_readCell_1 ?_
  obtain ⟨r1, M1, h1, hs⟩ := bn2_some hs
  refine x_callI (rest := []) wv_X6_202 F hS (fun _ h => h) hS.2.1 (tX2_pop l G A q hq hk1 h1) hP (x_recv (ci := 1) F hP rfl (by have := hk1; omega) (eC_F G q hk1 _)) rfl hl.1 rfl ⟨Nat.le_of_ble_eq_true rfl, Nat.le_of_ble_eq_true rfl⟩ ⟨Nat.le_refl _, Nat.le_refl _⟩ (Nat.le_of_ble_eq_true rfl) dX6_readCell_4 (fun H locs hP hS _ _ => ?_)
  refine lv_istore_n (lv' := [(1, .int r1), (0, .ref (q 1))]) F.1 F.2.1 dX6_readCell_7 rfl hl (by decide) rfl (fun ls hl => ?_)
  refine lv_aload_n F.1 F.2.1 dX6_readCell_8 rfl (lv_at hl 1 rfl) ?_
  obtain ⟨k2, hik2, hxk2, hk2, hs⟩ := ic_some hs
  refine gC_X6_99 hik2 hxk2 F hP dX6_readCell_9 ?_
  obtain ⟨r2, M2, h2, hs⟩ := bn2_some hs
  refine x_callI (rest := []) wv_X6_202 F hS (fun _ h => h) hS.2.1 (tX2_pop l G A q hq hk2 h2) hP (x_recv (ci := 1) F hP rfl (by have := hk2; omega) (eC_F G q hk2 _)) rfl hl.1 rfl ⟨Nat.le_of_ble_eq_true rfl, Nat.le_of_ble_eq_true rfl⟩ ⟨Nat.le_refl _, Nat.le_refl _⟩ (Nat.le_of_ble_eq_true rfl) dX6_readCell_12 (fun H locs hP hS _ _ => ?_)
  refine lv_istore_n (lv' := [(2, .int r2), (1, .int r1), (0, .ref (q 1))]) F.1 F.2.1 dX6_readCell_15 rfl hl (by decide) rfl (fun ls hl => ?_)
  refine lv_aload_n F.1 F.2.1 dX6_readCell_16 rfl (lv_at hl 2 rfl) ?_
  refine gC_X6_24 F hP dX6_readCell_17 ?_
  refine lv_aload_n F.1 F.2.1 dX6_readCell_20 rfl (lv_at hl 2 rfl) ?_
  obtain ⟨k3, hik3, hxk3, hk3, hs⟩ := ic_some hs
  refine gC_X6_99 hik3 hxk3 F hP dX6_readCell_21 ?_
  refine gC_X6_250 hk3 F hP dX6_readCell_24 ?_
  refine lv_iload_n F.1 F.2.1 dX6_readCell_27 rfl (lv_at hl 0 rfl) ?_
  refine lv_iload_n F.1 F.2.1 dX6_readCell_28 rfl (lv_at hl 1 rfl) ?_
  obtain ⟨r3, h3, hs⟩ := bn_some hs
  refine x_callI (rest := []) wv_X6_279 F hS (fun _ h => h) hS.2.1 (tX7_cellFault l G A q hq h3) hP (x_recv (ci := 5) F hP rfl (by decide) (eC_2 G q _)) rfl hl.1 rfl ⟨Nat.le_of_ble_eq_true rfl, Nat.le_of_ble_eq_true rfl⟩ ⟨Nat.le_refl _, Nat.le_refl _⟩ (Nat.le_of_ble_eq_true rfl) dX6_readCell_29 (fun H locs hP hS _ _ => ?_)
  refine lv_istore_n (lv' := [(3, .int r3), (2, .int r2), (1, .int r1), (0, .ref (q 1))]) F.1 F.2.1 dX6_readCell_32 rfl hl (by decide) rfl (fun ls hl => ?_)
  refine lv_iload_n F.1 F.2.1 dX6_readCell_33 rfl (lv_at hl 0 rfl) ?_
  refine lv_ldc (v := 65536) F.1 F.2.1 F.2.2.2.1 (F.ws m_1_67) dX6_readCell_34 ?_
  refine lv_icmp_eq (tgt := 43) F.1 F.2.1 dX6_readCell_36 (by decide) (fun c1 => ?_) (fun c1 => ?_)
  · have hs := it_t c1 hs
    refine lv_aload_n F.1 F.2.1 dX6_readCell_43 rfl (lv_at hl 3 rfl) ?_
    refine lv_aload_n F.1 F.2.1 dX6_readCell_44 rfl (lv_at hl 3 rfl) ?_
    refine gC_X6_24 F hP dX6_readCell_45 ?_
    refine lv_iload_n F.1 F.2.1 dX6_readCell_48 rfl (lv_at hl 1 rfl) ?_
    refine lv_iload_n F.1 F.2.1 dX6_readCell_49 rfl (lv_at hl 2 rfl) ?_
    obtain ⟨r4, h4, hs⟩ := bn_some hs
    refine x_callI (rest := [.ref (q 1)]) wv_X6_282 F hS (fun _ h => h) hS.2.1 (tX7_read l G A q hq h4) hP (x_recv (ci := 5) F hP rfl (by decide) (eC_2 G q _)) rfl hl.1 rfl ⟨Nat.le_of_ble_eq_true rfl, Nat.le_of_ble_eq_true rfl⟩ ⟨Nat.le_refl _, Nat.le_refl _⟩ (Nat.le_of_ble_eq_true rfl) dX6_readCell_50 (fun H locs hP hS _ _ => ?_)
    obtain ⟨r5, M3, h5, hs⟩ := bn2_some hs
    refine x_callI (rest := []) wv_X6_193 F hS (fun _ h => h) hS.2.1 (tX6_put l G A q hq h5) hP (x_recv (ci := 4) F hP rfl (by decide) (eC_1 G q _)) rfl hl.1 rfl ⟨Nat.le_of_ble_eq_true rfl, Nat.le_of_ble_eq_true rfl⟩ ⟨Nat.le_refl _, Nat.le_refl _⟩ (Nat.le_of_ble_eq_true rfl) dX6_readCell_53 (fun H locs hP hS _ _ => ?_)
    cases hs
    exact x_iret F rfl rfl hP hS dX6_readCell_56
  have hs := it_f c1 hs
  refine lv_iload_n F.1 F.2.1 dX6_readCell_39 rfl (lv_at hl 0 rfl) ?_
  refine lv_goto (tgt := 56) F.1 F.2.1 dX6_readCell_40 (by decide) ?_
  cases hs
  exact x_iret F rfl rfl hP hS dX6_readCell_56

def pX6_writeCell (M : St) : Option (Int32 × St) :=
  ic (M 1 10) 8 fun k1 =>
  bn2 (pX2_pop M k1) fun r1 M1 =>
  ic (M1 1 10) 8 fun k2 =>
  bn2 (pX2_pop M1 k2) fun r2 M2 =>
  ic (M2 1 10) 8 fun k3 =>
  bn2 (pX2_pop M2 k3) fun r3 M3 =>
  ic (M3 1 10) 8 fun k4 =>
  bn (pX7_cellFault M3 (M3 (27 + k4) 3) r3 r2) fun r4 =>
  if r4 = 65536 then
    bn (pX7_thingFault M3) fun r5 =>
    if r5 = 65536 then
      bn (pX7_write M3 r3 r2 r1) fun M5 =>
      some (r5, M5)
    else
      some (r5, M3)
  else
    if r4 = 65536 then
      bn (pX7_write M3 r3 r2 r1) fun M4 =>
      some (r4, M4)
    else
      some (r4, M3)
set_option maxHeartbeats 4000000 in
set_option maxRecDepth 100000 in
theorem tX6_writeCell (l : Launch) (G : zG) (A : Nat → Prop) (q : Nat → Nat) (hq : zQD A 58 q) {M M' : St} {r : Int32} (hs : pX6_writeCell M = some (r, M')) : zKI l yX6_writeCell cX6_writeCell 5 (some .int) 2 46 G A (zP G.1 58 q (eC G q) M) [.ref (q 1)] r (zP G.1 58 q (eC G q) M') := by
  refine zKI_of (by decide) (Nat.le_of_ble_eq_true rfl) (fun p e s m args below meth c H ls F hH hP hl => ?_)
  have F : zFx p s m args meth c cX6_writeCell RX6 5 (some .int) G A := F
  have hS : va_S A s.heap H [] := hH ▸ va_S.rf
  have hl : lv_has ls 5 [(0, .ref (q 1))] := hl
  rw [pX6_writeCell] at hs
  refine lv_aload_n F.1 F.2.1 dX6_writeCell_0 rfl (lv_at hl 0 rfl) ?_
  obtain ⟨k1, hik1, hxk1, hk1, hs⟩ := ic_some hs
  refine gC_X6_99 hik1 hxk1 F hP dX6_writeCell_1 ?_
  obtain ⟨r1, M1, h1, hs⟩ := bn2_some hs
  refine x_callI (rest := []) wv_X6_202 F hS (fun _ h => h) hS.2.1 (tX2_pop l G A q hq hk1 h1) hP (x_recv (ci := 1) F hP rfl (by have := hk1; omega) (eC_F G q hk1 _)) rfl hl.1 rfl ⟨Nat.le_of_ble_eq_true rfl, Nat.le_of_ble_eq_true rfl⟩ ⟨Nat.le_refl _, Nat.le_refl _⟩ (Nat.le_of_ble_eq_true rfl) dX6_writeCell_4 (fun H locs hP hS _ _ => ?_)
  refine lv_istore_n (lv' := [(1, .int r1), (0, .ref (q 1))]) F.1 F.2.1 dX6_writeCell_7 rfl hl (by decide) rfl (fun ls hl => ?_)
  refine lv_aload_n F.1 F.2.1 dX6_writeCell_8 rfl (lv_at hl 1 rfl) ?_
  obtain ⟨k2, hik2, hxk2, hk2, hs⟩ := ic_some hs
  refine gC_X6_99 hik2 hxk2 F hP dX6_writeCell_9 ?_
  obtain ⟨r2, M2, h2, hs⟩ := bn2_some hs
  refine x_callI (rest := []) wv_X6_202 F hS (fun _ h => h) hS.2.1 (tX2_pop l G A q hq hk2 h2) hP (x_recv (ci := 1) F hP rfl (by have := hk2; omega) (eC_F G q hk2 _)) rfl hl.1 rfl ⟨Nat.le_of_ble_eq_true rfl, Nat.le_of_ble_eq_true rfl⟩ ⟨Nat.le_refl _, Nat.le_refl _⟩ (Nat.le_of_ble_eq_true rfl) dX6_writeCell_12 (fun H locs hP hS _ _ => ?_)
  refine lv_istore_n (lv' := [(2, .int r2), (1, .int r1), (0, .ref (q 1))]) F.1 F.2.1 dX6_writeCell_15 rfl hl (by decide) rfl (fun ls hl => ?_)
  refine lv_aload_n F.1 F.2.1 dX6_writeCell_16 rfl (lv_at hl 2 rfl) ?_
  obtain ⟨k3, hik3, hxk3, hk3, hs⟩ := ic_some hs
  refine gC_X6_99 hik3 hxk3 F hP dX6_writeCell_17 ?_
  obtain ⟨r3, M3, h3, hs⟩ := bn2_some hs
  refine x_callI (rest := []) wv_X6_202 F hS (fun _ h => h) hS.2.1 (tX2_pop l G A q hq hk3 h3) hP (x_recv (ci := 1) F hP rfl (by have := hk3; omega) (eC_F G q hk3 _)) rfl hl.1 rfl ⟨Nat.le_of_ble_eq_true rfl, Nat.le_of_ble_eq_true rfl⟩ ⟨Nat.le_refl _, Nat.le_refl _⟩ (Nat.le_of_ble_eq_true rfl) dX6_writeCell_20 (fun H locs hP hS _ _ => ?_)
  refine lv_istore_n (lv' := [(3, .int r3), (2, .int r2), (1, .int r1), (0, .ref (q 1))]) F.1 F.2.1 dX6_writeCell_23 rfl hl (by decide) rfl (fun ls hl => ?_)
  refine lv_aload_n F.1 F.2.1 dX6_writeCell_24 rfl (lv_at hl 3 rfl) ?_
  refine gC_X6_24 F hP dX6_writeCell_25 ?_
  refine lv_aload_n F.1 F.2.1 dX6_writeCell_28 rfl (lv_at hl 3 rfl) ?_
  obtain ⟨k4, hik4, hxk4, hk4, hs⟩ := ic_some hs
  refine gC_X6_99 hik4 hxk4 F hP dX6_writeCell_29 ?_
  refine gC_X6_250 hk4 F hP dX6_writeCell_32 ?_
  refine lv_iload_n F.1 F.2.1 dX6_writeCell_35 rfl (lv_at hl 0 rfl) ?_
  refine lv_iload_n F.1 F.2.1 dX6_writeCell_36 rfl (lv_at hl 1 rfl) ?_
  obtain ⟨r4, h4, hs⟩ := bn_some hs
  refine x_callI (rest := []) wv_X6_279 F hS (fun _ h => h) hS.2.1 (tX7_cellFault l G A q hq h4) hP (x_recv (ci := 5) F hP rfl (by decide) (eC_2 G q _)) rfl hl.1 rfl ⟨Nat.le_of_ble_eq_true rfl, Nat.le_of_ble_eq_true rfl⟩ ⟨Nat.le_refl _, Nat.le_refl _⟩ (Nat.le_of_ble_eq_true rfl) dX6_writeCell_37 (fun H locs hP hS _ _ => ?_)
  refine lv_istore (lv' := [(4, .int r4), (3, .int r3), (2, .int r2), (1, .int r1), (0, .ref (q 1))]) F.1 F.2.1 dX6_writeCell_40 hl (by decide) rfl (fun ls hl => ?_)
  refine lv_iload F.1 F.2.1 dX6_writeCell_42 (lv_at hl 0 rfl) ?_
  refine lv_ldc (v := 65536) F.1 F.2.1 F.2.2.2.1 (F.ws m_1_67) dX6_writeCell_44 ?_
  refine lv_icmp_ne (tgt := 58) F.1 F.2.1 dX6_writeCell_46 (by decide) (fun c1 => ?_) (fun c1 => ?_)
  · have hs := it_f c1 hs
    refine lv_iload F.1 F.2.1 dX6_writeCell_58 (lv_at hl 0 rfl) ?_
    refine lv_ldc (v := 65536) F.1 F.2.1 F.2.2.2.1 (F.ws m_1_67) dX6_writeCell_60 ?_
    refine lv_icmp_ne (tgt := 75) F.1 F.2.1 dX6_writeCell_62 (by decide) (fun c2 => ?_) (fun c2 => ?_)
    · have hs := it_f c2 hs
      refine lv_iload F.1 F.2.1 dX6_writeCell_75 (lv_at hl 0 rfl) ?_
      cases hs
      exact x_iret F rfl rfl hP hS dX6_writeCell_77
    have hs := it_t c2 hs
    refine lv_aload_n F.1 F.2.1 dX6_writeCell_65 rfl (lv_at hl 4 rfl) ?_
    refine gC_X6_24 F hP dX6_writeCell_66 ?_
    refine lv_iload_n F.1 F.2.1 dX6_writeCell_69 rfl (lv_at hl 1 rfl) ?_
    refine lv_iload_n F.1 F.2.1 dX6_writeCell_70 rfl (lv_at hl 2 rfl) ?_
    refine lv_iload_n F.1 F.2.1 dX6_writeCell_71 rfl (lv_at hl 3 rfl) ?_
    obtain ⟨M4, h5, hs⟩ := bn_some hs
    refine x_callV (rest := []) wv_X6_288 F hS (fun _ h => h) hS.2.1 (tX7_write l G A q hq h5) hP (x_recv (ci := 5) F hP rfl (by decide) (eC_2 G q _)) rfl hl.1 rfl ⟨Nat.le_of_ble_eq_true rfl, Nat.le_of_ble_eq_true rfl⟩ ⟨Nat.le_refl _, Nat.le_refl _⟩ (Nat.le_of_ble_eq_true rfl) dX6_writeCell_72 (fun H locs hP hS _ _ => ?_)
    refine lv_iload F.1 F.2.1 dX6_writeCell_75 (lv_at hl 0 rfl) ?_
    cases hs
    exact x_iret F rfl rfl hP hS dX6_writeCell_77
  have hs := it_t c1 hs
  refine lv_aload_n F.1 F.2.1 dX6_writeCell_49 rfl (lv_at hl 4 rfl) ?_
  refine gC_X6_24 F hP dX6_writeCell_50 ?_
  obtain ⟨r5, h6, hs⟩ := bn_some hs
  refine x_callI (rest := []) wv_X6_285 F hS (fun _ h => h) hS.2.1 (tX7_thingFault l G A q hq h6) hP (x_recv (ci := 5) F hP rfl (by decide) (eC_2 G q _)) rfl hl.1 rfl ⟨Nat.le_of_ble_eq_true rfl, Nat.le_of_ble_eq_true rfl⟩ ⟨Nat.le_refl _, Nat.le_refl _⟩ (Nat.le_of_ble_eq_true rfl) dX6_writeCell_53 (fun H locs hP hS _ _ => ?_)
  refine lv_istore (lv' := [(4, .int r5), (3, .int r3), (2, .int r2), (1, .int r1), (0, .ref (q 1))]) F.1 F.2.1 dX6_writeCell_56 hl (by decide) rfl (fun ls hl => ?_)
  refine lv_iload F.1 F.2.1 dX6_writeCell_58 (lv_at hl 0 rfl) ?_
  refine lv_ldc (v := 65536) F.1 F.2.1 F.2.2.2.1 (F.ws m_1_67) dX6_writeCell_60 ?_
  refine lv_icmp_ne (tgt := 75) F.1 F.2.1 dX6_writeCell_62 (by decide) (fun c3 => ?_) (fun c3 => ?_)
  · have hs := it_f c3 hs
    refine lv_iload F.1 F.2.1 dX6_writeCell_75 (lv_at hl 0 rfl) ?_
    cases hs
    exact x_iret F rfl rfl hP hS dX6_writeCell_77
  have hs := it_t c3 hs
  refine lv_aload_n F.1 F.2.1 dX6_writeCell_65 rfl (lv_at hl 4 rfl) ?_
  refine gC_X6_24 F hP dX6_writeCell_66 ?_
  refine lv_iload_n F.1 F.2.1 dX6_writeCell_69 rfl (lv_at hl 1 rfl) ?_
  refine lv_iload_n F.1 F.2.1 dX6_writeCell_70 rfl (lv_at hl 2 rfl) ?_
  refine lv_iload_n F.1 F.2.1 dX6_writeCell_71 rfl (lv_at hl 3 rfl) ?_
  obtain ⟨M5, h7, hs⟩ := bn_some hs
  refine x_callV (rest := []) wv_X6_288 F hS (fun _ h => h) hS.2.1 (tX7_write l G A q hq h7) hP (x_recv (ci := 5) F hP rfl (by decide) (eC_2 G q _)) rfl hl.1 rfl ⟨Nat.le_of_ble_eq_true rfl, Nat.le_of_ble_eq_true rfl⟩ ⟨Nat.le_refl _, Nat.le_refl _⟩ (Nat.le_of_ble_eq_true rfl) dX6_writeCell_72 (fun H locs hP hS _ _ => ?_)
  refine lv_iload F.1 F.2.1 dX6_writeCell_75 (lv_at hl 0 rfl) ?_
  cases hs
  exact x_iret F rfl rfl hP hS dX6_writeCell_77

def pX6_putSize (M : St) (x1 : Int32) : Option (Int32 × St) :=
  ic (M 1 10) 8 fun k1 =>
  bn (pX7_cellFault M (M (27 + k1) 3) x1 0) fun r1 =>
  if r1 = 65536 then
    gd (inb x1 41) <|
    bn2 (pX6_put M (M 53 (ix x1))) fun r2 M1 =>
    some (r2, M1)
  else
    some (r1, M)
set_option maxHeartbeats 4000000 in
set_option maxRecDepth 100000 in
theorem tX6_putSize (l : Launch) (G : zG) (A : Nat → Prop) (q : Nat → Nat) (hq : zQD A 58 q) {M M' : St} {r : Int32} {x1 : Int32} (hs : pX6_putSize M x1 = some (r, M')) : zKI l yX6_putSize cX6_putSize 3 (some .int) 2 46 G A (zP G.1 58 q (eC G q) M) [.ref (q 1), .int x1] r (zP G.1 58 q (eC G q) M') := by
  refine zKI_of (by decide) (Nat.le_of_ble_eq_true rfl) (fun p e s m args below meth c H ls F hH hP hl => ?_)
  have F : zFx p s m args meth c cX6_putSize RX6 3 (some .int) G A := F
  have hS : va_S A s.heap H [] := hH ▸ va_S.rf
  have hl : lv_has ls 3 [(0, .ref (q 1)), (1, .int x1)] := hl
  rw [pX6_putSize] at hs
  refine lv_aload_n F.1 F.2.1 dX6_putSize_0 rfl (lv_at hl 0 rfl) ?_
  refine gC_X6_24 F hP dX6_putSize_1 ?_
  refine lv_aload_n F.1 F.2.1 dX6_putSize_4 rfl (lv_at hl 0 rfl) ?_
  obtain ⟨k1, hik1, hxk1, hk1, hs⟩ := ic_some hs
  refine gC_X6_99 hik1 hxk1 F hP dX6_putSize_5 ?_
  refine gC_X6_250 hk1 F hP dX6_putSize_8 ?_
  refine lv_iload_n F.1 F.2.1 dX6_putSize_11 rfl (lv_at hl 1 rfl) ?_
  refine lv_iconst (v := 0) F.1 F.2.1 dX6_putSize_12 rfl ?_
  obtain ⟨r1, h1, hs⟩ := bn_some hs
  refine x_callI (rest := []) wv_X6_279 F hS (fun _ h => h) hS.2.1 (tX7_cellFault l G A q hq h1) hP (x_recv (ci := 5) F hP rfl (by decide) (eC_2 G q _)) rfl hl.1 rfl ⟨Nat.le_of_ble_eq_true rfl, Nat.le_of_ble_eq_true rfl⟩ ⟨Nat.le_refl _, Nat.le_refl _⟩ (Nat.le_of_ble_eq_true rfl) dX6_putSize_13 (fun H locs hP hS _ _ => ?_)
  refine lv_istore_n (lv' := [(2, .int r1), (0, .ref (q 1)), (1, .int x1)]) F.1 F.2.1 dX6_putSize_16 rfl hl (by decide) rfl (fun ls hl => ?_)
  refine lv_iload_n F.1 F.2.1 dX6_putSize_17 rfl (lv_at hl 0 rfl) ?_
  refine lv_ldc (v := 65536) F.1 F.2.1 F.2.2.2.1 (F.ws m_1_67) dX6_putSize_18 ?_
  refine lv_icmp_eq (tgt := 27) F.1 F.2.1 dX6_putSize_20 (by decide) (fun c1 => ?_) (fun c1 => ?_)
  · have hs := it_t c1 hs
    refine lv_aload_n F.1 F.2.1 dX6_putSize_27 rfl (lv_at hl 1 rfl) ?_
    refine lv_aload_n F.1 F.2.1 dX6_putSize_28 rfl (lv_at hl 1 rfl) ?_
    refine gC_X6_24 F hP dX6_putSize_29 ?_
    refine gC_X6_292 F hP dX6_putSize_32 ?_
    refine lv_iload_n F.1 F.2.1 dX6_putSize_35 rfl (lv_at hl 2 rfl) ?_
    obtain ⟨g1, hs⟩ := gd_some hs
    refine x_iald F hP (arC_53 G q) g1 dX6_putSize_36 ?_
    obtain ⟨r2, M1, h2, hs⟩ := bn2_some hs
    refine x_callI (rest := []) wv_X6_193 F hS (fun _ h => h) hS.2.1 (tX6_put l G A q hq h2) hP (x_recv (ci := 4) F hP rfl (by decide) (eC_1 G q _)) rfl hl.1 rfl ⟨Nat.le_of_ble_eq_true rfl, Nat.le_of_ble_eq_true rfl⟩ ⟨Nat.le_refl _, Nat.le_refl _⟩ (Nat.le_of_ble_eq_true rfl) dX6_putSize_37 (fun H locs hP hS _ _ => ?_)
    cases hs
    exact x_iret F rfl rfl hP hS dX6_putSize_40
  have hs := it_f c1 hs
  refine lv_iload_n F.1 F.2.1 dX6_putSize_23 rfl (lv_at hl 0 rfl) ?_
  refine lv_goto (tgt := 40) F.1 F.2.1 dX6_putSize_24 (by decide) ?_
  cases hs
  exact x_iret F rfl rfl hP hS dX6_putSize_40

def pX6_putOwner (M : St) (x1 : Int32) : Option (Int32 × St) :=
  bn (pX7_has M x1) fun r1 =>
  if r1 = 0 then
    some (2, M)
  else
    gd (inb x1 41) <|
    bn2 (pX6_put M (M 51 (ix x1))) fun r2 M1 =>
    some (r2, M1)
set_option maxHeartbeats 4000000 in
set_option maxRecDepth 100000 in
theorem tX6_putOwner (l : Launch) (G : zG) (A : Nat → Prop) (q : Nat → Nat) (hq : zQD A 58 q) {M M' : St} {r : Int32} {x1 : Int32} (hs : pX6_putOwner M x1 = some (r, M')) : zKI l yX6_putOwner cX6_putOwner 2 (some .int) 2 42 G A (zP G.1 58 q (eC G q) M) [.ref (q 1), .int x1] r (zP G.1 58 q (eC G q) M') := by
  refine zKI_of (by decide) (Nat.le_of_ble_eq_true rfl) (fun p e s m args below meth c H ls F hH hP hl => ?_)
  have F : zFx p s m args meth c cX6_putOwner RX6 2 (some .int) G A := F
  have hS : va_S A s.heap H [] := hH ▸ va_S.rf
  have hl : lv_has ls 2 [(0, .ref (q 1)), (1, .int x1)] := hl
  rw [pX6_putOwner] at hs
  refine lv_aload_n F.1 F.2.1 dX6_putOwner_0 rfl (lv_at hl 0 rfl) ?_
  refine gC_X6_24 F hP dX6_putOwner_1 ?_
  refine lv_iload_n F.1 F.2.1 dX6_putOwner_4 rfl (lv_at hl 1 rfl) ?_
  obtain ⟨r1, h1, hs⟩ := bn_some hs
  refine x_callI (rest := []) wv_X6_295 F hS (fun _ h => h) hS.2.1 (tX7_has l G A q hq h1) hP (x_recv (ci := 5) F hP rfl (by decide) (eC_2 G q _)) rfl hl.1 rfl ⟨Nat.le_of_ble_eq_true rfl, Nat.le_of_ble_eq_true rfl⟩ ⟨Nat.le_refl _, Nat.le_refl _⟩ (Nat.le_of_ble_eq_true rfl) dX6_putOwner_5 (fun H locs hP hS _ _ => ?_)
  refine lv_if_eq (tgt := 27) F.1 F.2.1 dX6_putOwner_8 (by decide) (fun c1 => ?_) (fun c1 => ?_)
  · have hs := it_t c1 hs
    refine lv_iconst (v := 2) F.1 F.2.1 dX6_putOwner_27 rfl ?_
    cases hs
    exact x_iret F rfl rfl hP hS dX6_putOwner_28
  have hs := it_f c1 hs
  refine lv_aload_n F.1 F.2.1 dX6_putOwner_11 rfl (lv_at hl 0 rfl) ?_
  refine lv_aload_n F.1 F.2.1 dX6_putOwner_12 rfl (lv_at hl 0 rfl) ?_
  refine gC_X6_24 F hP dX6_putOwner_13 ?_
  refine gC_X6_298 F hP dX6_putOwner_16 ?_
  refine lv_iload_n F.1 F.2.1 dX6_putOwner_19 rfl (lv_at hl 1 rfl) ?_
  obtain ⟨g1, hs⟩ := gd_some hs
  refine x_iald F hP (arC_51 G q) g1 dX6_putOwner_20 ?_
  obtain ⟨r2, M1, h2, hs⟩ := bn2_some hs
  refine x_callI (rest := []) wv_X6_193 F hS (fun _ h => h) hS.2.1 (tX6_put l G A q hq h2) hP (x_recv (ci := 4) F hP rfl (by decide) (eC_1 G q _)) rfl hl.1 rfl ⟨Nat.le_of_ble_eq_true rfl, Nat.le_of_ble_eq_true rfl⟩ ⟨Nat.le_refl _, Nat.le_refl _⟩ (Nat.le_of_ble_eq_true rfl) dX6_putOwner_21 (fun H locs hP hS _ _ => ?_)
  refine lv_goto (tgt := 28) F.1 F.2.1 dX6_putOwner_24 (by decide) ?_
  cases hs
  exact x_iret F rfl rfl hP hS dX6_putOwner_28

def pX6_useObjects (M : St) (w1 : Nat) : Option (Int32 × St) :=
  gd (inb (opOrd.getD w1 0) 46) <|
  if (opSw.getD (ix (opOrd.getD w1 0)) 0).toInt < 21 ∨ 27 < (opSw.getD (ix (opOrd.getD w1 0)) 0).toInt then
    bn2 (pX6_copyCells M) fun r1 M1 =>
    some (r1, M1)
  else
  if (opSw.getD (ix (opOrd.getD w1 0)) 0) = 21 then
    bn2 (pX6_makeObject M 0) fun r2 M2 =>
    some (r2, M2)
  else
  if (opSw.getD (ix (opOrd.getD w1 0)) 0) = 22 then
    bn2 (pX6_makeObject M 1) fun r3 M3 =>
    some (r3, M3)
  else
  if (opSw.getD (ix (opOrd.getD w1 0)) 0) = 23 then
    bn2 (pX6_readCell M) fun r4 M4 =>
    some (r4, M4)
  else
  if (opSw.getD (ix (opOrd.getD w1 0)) 0) = 24 then
    bn2 (pX6_writeCell M) fun r5 M5 =>
    some (r5, M5)
  else
  if (opSw.getD (ix (opOrd.getD w1 0)) 0) = 25 then
    ic (M 1 10) 8 fun k1 =>
    bn2 (pX2_pop M k1) fun r6 M6 =>
    bn2 (pX6_putSize M6 r6) fun r7 M7 =>
    some (r7, M7)
  else
  if (opSw.getD (ix (opOrd.getD w1 0)) 0) = 26 then
    ic (M 1 10) 8 fun k2 =>
    bn2 (pX6_put M ((M (27 + k2) 3) + 1)) fun r8 M8 =>
    some (r8, M8)
  else
  if (opSw.getD (ix (opOrd.getD w1 0)) 0) = 27 then
    ic (M 1 10) 8 fun k3 =>
    bn2 (pX2_pop M k3) fun r9 M9 =>
    bn2 (pX6_putOwner M9 r9) fun r10 M10 =>
    some (r10, M10)
  else
    none
set_option maxHeartbeats 4000000 in
set_option maxRecDepth 100000 in
theorem tX6_useObjects (l : Launch) (G : zG) (A : Nat → Prop) (q : Nat → Nat) (hq : zQD A 58 q) {M M' : St} {r : Int32} {w1 : Nat} (hw1 : w1 < 46) (hs : pX6_useObjects M w1 = some (r, M')) : zKI l yX6_useObjects cX6_useObjects 2 (some .int) 5 115 G A (zP G.1 58 q (eC G q) M) [.ref (q 1), .ref (G.2.2.1 w1)] r (zP G.1 58 q (eC G q) M') := by
  refine zKI_of (by decide) (Nat.le_of_ble_eq_true rfl) (fun p e s m args below meth c H ls F hH hP hl => ?_)
  have F : zFx p s m args meth c cX6_useObjects RX6 2 (some .int) G A := F
  have hS : va_S A s.heap H [] := hH ▸ va_S.rf
  have hl : lv_has ls 2 [(0, .ref (q 1)), (1, .ref (G.2.2.1 w1))] := hl
  rw [pX6_useObjects] at hs
  refine x_getS m_1_76 F hS dX6_useObjects_0 ?_
  refine lv_aload_n F.1 F.2.1 dX6_useObjects_3 rfl (lv_at hl 1 rfl) ?_
  refine x_ord m_1_78 F hS hw1 hP hl.1 ⟨Nat.le_of_ble_eq_true rfl, Nat.le_of_ble_eq_true rfl⟩ ⟨Nat.le_refl _, Nat.le_refl _⟩ (rest := [.ref G.2.2.2.2]) (Nat.le_of_ble_eq_true rfl) dX6_useObjects_4 (fun H locs hP hS => ?_)
  obtain ⟨g1, hs⟩ := gd_some hs
  refine x_ialdS F hS g1 dX6_useObjects_7 ?_
  by_cases c1 : (opSw.getD (ix (opOrd.getD w1 0)) 0).toInt < 21 ∨ 27 < (opSw.getD (ix (opOrd.getD w1 0)) 0).toInt
  · have hs := it_t c1 hs
    refine lv_tableOut (tgt := 112) F.1 F.2.1 dX6_useObjects_8 c1 (by decide) ?_
    refine lv_aload_n F.1 F.2.1 dX6_useObjects_112 rfl (lv_at hl 0 rfl) ?_
    obtain ⟨r1, M1, h1, hs⟩ := bn2_some hs
    refine x_callI (rest := []) wv_X6_269 F hS (fun _ h => h) hS.2.1 (tX6_copyCells l G A q hq h1) hP (x_recv (ci := 4) F hP rfl (by decide) (eC_1 G q _)) rfl hl.1 rfl ⟨Nat.le_of_ble_eq_true rfl, Nat.le_of_ble_eq_true rfl⟩ ⟨Nat.le_refl _, Nat.le_refl _⟩ (Nat.le_of_ble_eq_true rfl) dX6_useObjects_113 (fun H locs hP hS _ _ => ?_)
    cases hs
    exact x_iret F rfl rfl hP hS dX6_useObjects_116
  have hs := it_f c1 hs
  by_cases c2 : (opSw.getD (ix (opOrd.getD w1 0)) 0) = 21
  · have hs := it_t c2 hs
    refine lv_tableIn (off := 44) (tgt := 52) F.1 F.2.1 dX6_useObjects_8 (by rw [c2]; decide) (by rw [c2]; decide) (by rw [c2]; rfl) (by decide) ?_
    refine lv_aload_n F.1 F.2.1 dX6_useObjects_52 rfl (lv_at hl 0 rfl) ?_
    refine lv_iconst (v := 0) F.1 F.2.1 dX6_useObjects_53 rfl ?_
    obtain ⟨r2, M2, h2, hs⟩ := bn2_some hs
    refine x_callI (rest := []) wv_X6_254 F hS (fun _ h => h) hS.2.1 (tX6_makeObject l G A q hq h2) hP (x_recv (ci := 4) F hP rfl (by decide) (eC_1 G q _)) rfl hl.1 rfl ⟨Nat.le_of_ble_eq_true rfl, Nat.le_of_ble_eq_true rfl⟩ ⟨Nat.le_refl _, Nat.le_refl _⟩ (Nat.le_of_ble_eq_true rfl) dX6_useObjects_54 (fun H locs hP hS _ _ => ?_)
    cases hs
    exact x_iret F rfl rfl hP hS dX6_useObjects_57
  have hs := it_f c2 hs
  by_cases c3 : (opSw.getD (ix (opOrd.getD w1 0)) 0) = 22
  · have hs := it_t c3 hs
    refine lv_tableIn (off := 50) (tgt := 58) F.1 F.2.1 dX6_useObjects_8 (by rw [c3]; decide) (by rw [c3]; decide) (by rw [c3]; rfl) (by decide) ?_
    refine lv_aload_n F.1 F.2.1 dX6_useObjects_58 rfl (lv_at hl 0 rfl) ?_
    refine lv_iconst (v := 1) F.1 F.2.1 dX6_useObjects_59 rfl ?_
    obtain ⟨r3, M3, h3, hs⟩ := bn2_some hs
    refine x_callI (rest := []) wv_X6_254 F hS (fun _ h => h) hS.2.1 (tX6_makeObject l G A q hq h3) hP (x_recv (ci := 4) F hP rfl (by decide) (eC_1 G q _)) rfl hl.1 rfl ⟨Nat.le_of_ble_eq_true rfl, Nat.le_of_ble_eq_true rfl⟩ ⟨Nat.le_refl _, Nat.le_refl _⟩ (Nat.le_of_ble_eq_true rfl) dX6_useObjects_60 (fun H locs hP hS _ _ => ?_)
    cases hs
    exact x_iret F rfl rfl hP hS dX6_useObjects_63
  have hs := it_f c3 hs
  by_cases c4 : (opSw.getD (ix (opOrd.getD w1 0)) 0) = 23
  · have hs := it_t c4 hs
    refine lv_tableIn (off := 56) (tgt := 64) F.1 F.2.1 dX6_useObjects_8 (by rw [c4]; decide) (by rw [c4]; decide) (by rw [c4]; rfl) (by decide) ?_
    refine lv_aload_n F.1 F.2.1 dX6_useObjects_64 rfl (lv_at hl 0 rfl) ?_
    obtain ⟨r4, M4, h4, hs⟩ := bn2_some hs
    refine x_callI (rest := []) wv_X6_257 F hS (fun _ h => h) hS.2.1 (tX6_readCell l G A q hq h4) hP (x_recv (ci := 4) F hP rfl (by decide) (eC_1 G q _)) rfl hl.1 rfl ⟨Nat.le_of_ble_eq_true rfl, Nat.le_of_ble_eq_true rfl⟩ ⟨Nat.le_refl _, Nat.le_refl _⟩ (Nat.le_of_ble_eq_true rfl) dX6_useObjects_65 (fun H locs hP hS _ _ => ?_)
    cases hs
    exact x_iret F rfl rfl hP hS dX6_useObjects_68
  have hs := it_f c4 hs
  by_cases c5 : (opSw.getD (ix (opOrd.getD w1 0)) 0) = 24
  · have hs := it_t c5 hs
    refine lv_tableIn (off := 61) (tgt := 69) F.1 F.2.1 dX6_useObjects_8 (by rw [c5]; decide) (by rw [c5]; decide) (by rw [c5]; rfl) (by decide) ?_
    refine lv_aload_n F.1 F.2.1 dX6_useObjects_69 rfl (lv_at hl 0 rfl) ?_
    obtain ⟨r5, M5, h5, hs⟩ := bn2_some hs
    refine x_callI (rest := []) wv_X6_260 F hS (fun _ h => h) hS.2.1 (tX6_writeCell l G A q hq h5) hP (x_recv (ci := 4) F hP rfl (by decide) (eC_1 G q _)) rfl hl.1 rfl ⟨Nat.le_of_ble_eq_true rfl, Nat.le_of_ble_eq_true rfl⟩ ⟨Nat.le_refl _, Nat.le_refl _⟩ (Nat.le_of_ble_eq_true rfl) dX6_useObjects_70 (fun H locs hP hS _ _ => ?_)
    cases hs
    exact x_iret F rfl rfl hP hS dX6_useObjects_73
  have hs := it_f c5 hs
  by_cases c6 : (opSw.getD (ix (opOrd.getD w1 0)) 0) = 25
  · have hs := it_t c6 hs
    refine lv_tableIn (off := 66) (tgt := 74) F.1 F.2.1 dX6_useObjects_8 (by rw [c6]; decide) (by rw [c6]; decide) (by rw [c6]; rfl) (by decide) ?_
    refine lv_aload_n F.1 F.2.1 dX6_useObjects_74 rfl (lv_at hl 0 rfl) ?_
    refine lv_aload_n F.1 F.2.1 dX6_useObjects_75 rfl (lv_at hl 0 rfl) ?_
    obtain ⟨k1, hik1, hxk1, hk1, hs⟩ := ic_some hs
    refine gC_X6_99 hik1 hxk1 F hP dX6_useObjects_76 ?_
    obtain ⟨r6, M6, h6, hs⟩ := bn2_some hs
    refine x_callI (rest := [.ref (q 1)]) wv_X6_202 F hS (fun _ h => h) hS.2.1 (tX2_pop l G A q hq hk1 h6) hP (x_recv (ci := 1) F hP rfl (by have := hk1; omega) (eC_F G q hk1 _)) rfl hl.1 rfl ⟨Nat.le_of_ble_eq_true rfl, Nat.le_of_ble_eq_true rfl⟩ ⟨Nat.le_refl _, Nat.le_refl _⟩ (Nat.le_of_ble_eq_true rfl) dX6_useObjects_79 (fun H locs hP hS _ _ => ?_)
    obtain ⟨r7, M7, h7, hs⟩ := bn2_some hs
    refine x_callI (rest := []) wv_X6_263 F hS (fun _ h => h) hS.2.1 (tX6_putSize l G A q hq h7) hP (x_recv (ci := 4) F hP rfl (by decide) (eC_1 G q _)) rfl hl.1 rfl ⟨Nat.le_of_ble_eq_true rfl, Nat.le_of_ble_eq_true rfl⟩ ⟨Nat.le_refl _, Nat.le_refl _⟩ (Nat.le_of_ble_eq_true rfl) dX6_useObjects_82 (fun H locs hP hS _ _ => ?_)
    cases hs
    exact x_iret F rfl rfl hP hS dX6_useObjects_85
  have hs := it_f c6 hs
  by_cases c7 : (opSw.getD (ix (opOrd.getD w1 0)) 0) = 26
  · have hs := it_t c7 hs
    refine lv_tableIn (off := 78) (tgt := 86) F.1 F.2.1 dX6_useObjects_8 (by rw [c7]; decide) (by rw [c7]; decide) (by rw [c7]; rfl) (by decide) ?_
    refine lv_aload_n F.1 F.2.1 dX6_useObjects_86 rfl (lv_at hl 0 rfl) ?_
    refine lv_aload_n F.1 F.2.1 dX6_useObjects_87 rfl (lv_at hl 0 rfl) ?_
    obtain ⟨k2, hik2, hxk2, hk2, hs⟩ := ic_some hs
    refine gC_X6_99 hik2 hxk2 F hP dX6_useObjects_88 ?_
    refine gC_X6_250 hk2 F hP dX6_useObjects_91 ?_
    refine lv_iconst (v := 1) F.1 F.2.1 dX6_useObjects_94 rfl ?_
    refine lv_iadd F.1 F.2.1 dX6_useObjects_95 ?_
    obtain ⟨r8, M8, h8, hs⟩ := bn2_some hs
    refine x_callI (rest := []) wv_X6_193 F hS (fun _ h => h) hS.2.1 (tX6_put l G A q hq h8) hP (x_recv (ci := 4) F hP rfl (by decide) (eC_1 G q _)) rfl hl.1 rfl ⟨Nat.le_of_ble_eq_true rfl, Nat.le_of_ble_eq_true rfl⟩ ⟨Nat.le_refl _, Nat.le_refl _⟩ (Nat.le_of_ble_eq_true rfl) dX6_useObjects_96 (fun H locs hP hS _ _ => ?_)
    cases hs
    exact x_iret F rfl rfl hP hS dX6_useObjects_99
  have hs := it_f c7 hs
  by_cases c8 : (opSw.getD (ix (opOrd.getD w1 0)) 0) = 27
  · have hs := it_t c8 hs
    refine lv_tableIn (off := 92) (tgt := 100) F.1 F.2.1 dX6_useObjects_8 (by rw [c8]; decide) (by rw [c8]; decide) (by rw [c8]; rfl) (by decide) ?_
    refine lv_aload_n F.1 F.2.1 dX6_useObjects_100 rfl (lv_at hl 0 rfl) ?_
    refine lv_aload_n F.1 F.2.1 dX6_useObjects_101 rfl (lv_at hl 0 rfl) ?_
    obtain ⟨k3, hik3, hxk3, hk3, hs⟩ := ic_some hs
    refine gC_X6_99 hik3 hxk3 F hP dX6_useObjects_102 ?_
    obtain ⟨r9, M9, h9, hs⟩ := bn2_some hs
    refine x_callI (rest := [.ref (q 1)]) wv_X6_202 F hS (fun _ h => h) hS.2.1 (tX2_pop l G A q hq hk3 h9) hP (x_recv (ci := 1) F hP rfl (by have := hk3; omega) (eC_F G q hk3 _)) rfl hl.1 rfl ⟨Nat.le_of_ble_eq_true rfl, Nat.le_of_ble_eq_true rfl⟩ ⟨Nat.le_refl _, Nat.le_refl _⟩ (Nat.le_of_ble_eq_true rfl) dX6_useObjects_105 (fun H locs hP hS _ _ => ?_)
    obtain ⟨r10, M10, h10, hs⟩ := bn2_some hs
    refine x_callI (rest := []) wv_X6_266 F hS (fun _ h => h) hS.2.1 (tX6_putOwner l G A q hq h10) hP (x_recv (ci := 4) F hP rfl (by decide) (eC_1 G q _)) rfl hl.1 rfl ⟨Nat.le_of_ble_eq_true rfl, Nat.le_of_ble_eq_true rfl⟩ ⟨Nat.le_refl _, Nat.le_refl _⟩ (Nat.le_of_ble_eq_true rfl) dX6_useObjects_108 (fun H locs hP hS _ _ => ?_)
    cases hs
    exact x_iret F rfl rfl hP hS dX6_useObjects_111
  have hs := it_f c8 hs
  cases hs

def pX6_changeTransaction_b46 (M : St) (kx1 : Nat) (t0 : Int32) (t1 : Int32) : Option (Int32 × St) :=
  if t1 = t0 then
    some (9, M)
  else
    gd (inb (opOrd.getD kx1 0) 46) <|
    if (opSw.getD (ix (opOrd.getD kx1 0)) 0) = 28 then
      bn (pX7_begin M) fun M1 =>
      some (65536, M1)
    else
    if (opSw.getD (ix (opOrd.getD kx1 0)) 0) = 29 then
      bn (pX7_close M) fun M2 =>
      some (65536, M2)
    else
      bn2 (pX7_undo M) fun r1 M3 =>
      some (65536, M3)
def pX6_changeTransaction (M : St) (w1 : Nat) : Option (Int32 × St) :=
  if w1 = 39 then
    if M 2 5 = 0 then
      bn2 (pX6_put M 0) fun r1 M1 =>
      some (r1, M1)
    else
      bn2 (pX6_put M 1) fun r2 M2 =>
      some (r2, M2)
  else
    if w1 = 36 then
      pX6_changeTransaction_b46 M w1 1 (M 2 5)
    else
      pX6_changeTransaction_b46 M w1 0 (M 2 5)
set_option maxHeartbeats 4000000 in
set_option maxRecDepth 100000 in
theorem tX6_changeTransaction_b46 {G : zG} {A : Nat → Prop} {q : Nat → Nat} (hq : zQD A 58 q) {M M' : St} {r : Int32} {kx1 : Nat} {t0 : Int32} {t1 : Int32} (hkx1 : kx1 < 46) (hs : pX6_changeTransaction_b46 M kx1 t0 t1 = some (r, M')) {p : Program} {l : Launch} {e : Env} {s : State} {m : MethodId} {args : Array Value} {below : List Frame} {meth : Method} {c : Code} {H : Heap} {locs : List Loc} {ls : Array Slot} (F : zFx p s m args meth c cX6_changeTransaction RX6 2 (some .int) G A) (hP : (zP G.1 58 q (eC G q) M) H) (hS : va_S A s.heap H locs) (hl : lv_has ls 2 [(0, .ref (q 1)), (1, .ref (G.2.2.1 kx1))]) : W p l e { frames := 2, cells := 0, slots := 0, locals := 42 } s m args below meth c H locs 0 0 (MQ below (va_Qi (fun (r' : Int32) (_ : Unit) => r' = r) (fun _ U => (zP G.1 58 q (eC G q) M') U.heap) A) args s 0 0 A) (F0 m 46 ls [.int t0, .int t1]) := by
  rw [pX6_changeTransaction_b46] at hs
  refine lv_icmp_ne (tgt := 52) F.1 F.2.1 dX6_changeTransaction_46 (by decide) (fun c1 => ?_) (fun c1 => ?_)
  · have hs := it_f c1 hs
    refine x_getS m_1_76 F hS dX6_changeTransaction_52 ?_
    refine lv_aload_n F.1 F.2.1 dX6_changeTransaction_55 rfl (lv_at hl 1 rfl) ?_
    refine x_ord m_1_78 F hS hkx1 hP hl.1 ⟨Nat.le_of_ble_eq_true rfl, Nat.le_of_ble_eq_true rfl⟩ ⟨Nat.le_refl _, Nat.le_refl _⟩ (rest := [.ref G.2.2.2.2]) (Nat.le_of_ble_eq_true rfl) dX6_changeTransaction_56 (fun H locs hP hS => ?_)
    obtain ⟨g1, hs⟩ := gd_some hs
    refine x_ialdS F hS g1 dX6_changeTransaction_59 ?_
    by_cases c2 : (opSw.getD (ix (opOrd.getD kx1 0)) 0) = 28
    · have hs := it_t c2 hs
      refine lv_lookup (off := 28) (tgt := 88) F.1 F.2.1 dX6_changeTransaction_60 (by decide) (by rw [c2]; rfl) (by decide) ?_
      refine lv_aload_n F.1 F.2.1 dX6_changeTransaction_88 rfl (lv_at hl 0 rfl) ?_
      refine gC_X6_24 F hP dX6_changeTransaction_89 ?_
      obtain ⟨M1, h1, hs⟩ := bn_some hs
      refine x_callV (rest := []) wv_X6_318 F hS (fun _ h => h) hS.2.1 (tX7_begin l G A q hq h1) hP (x_recv (ci := 5) F hP rfl (by decide) (eC_2 G q _)) rfl hl.1 rfl ⟨Nat.le_of_ble_eq_true rfl, Nat.le_of_ble_eq_true rfl⟩ ⟨Nat.le_refl _, Nat.le_refl _⟩ (Nat.le_of_ble_eq_true rfl) dX6_changeTransaction_92 (fun H locs hP hS _ _ => ?_)
      refine lv_ldc (v := 65536) F.1 F.2.1 F.2.2.2.1 (F.ws m_1_67) dX6_changeTransaction_95 ?_
      cases hs
      exact x_iret F rfl rfl hP hS dX6_changeTransaction_97
    have hs := it_f c2 hs
    by_cases c3 : (opSw.getD (ix (opOrd.getD kx1 0)) 0) = 29
    · have hs := it_t c3 hs
      refine lv_lookup (off := 38) (tgt := 98) F.1 F.2.1 dX6_changeTransaction_60 (by decide) (by rw [c3]; rfl) (by decide) ?_
      refine lv_aload_n F.1 F.2.1 dX6_changeTransaction_98 rfl (lv_at hl 0 rfl) ?_
      refine gC_X6_24 F hP dX6_changeTransaction_99 ?_
      obtain ⟨M2, h2, hs⟩ := bn_some hs
      refine x_callV (rest := []) wv_X6_320 F hS (fun _ h => h) hS.2.1 (tX7_close l G A q hq h2) hP (x_recv (ci := 5) F hP rfl (by decide) (eC_2 G q _)) rfl hl.1 rfl ⟨Nat.le_of_ble_eq_true rfl, Nat.le_of_ble_eq_true rfl⟩ ⟨Nat.le_refl _, Nat.le_refl _⟩ (Nat.le_of_ble_eq_true rfl) dX6_changeTransaction_102 (fun H locs hP hS _ _ => ?_)
      refine lv_ldc (v := 65536) F.1 F.2.1 F.2.2.2.1 (F.ws m_1_67) dX6_changeTransaction_105 ?_
      cases hs
      exact x_iret F rfl rfl hP hS dX6_changeTransaction_107
    have hs := it_f c3 hs
    refine lv_lookup (off := 48) (tgt := 108) F.1 F.2.1 dX6_changeTransaction_60 (by decide) (by show Op.lookupswitch.offset [(28, 28), (29, 38)] 48 _ = _; rw [lv_osw (a := 28) c2 rfl, lv_osw (a := 29) c3 rfl]; rfl) (by decide) ?_
    refine lv_aload_n F.1 F.2.1 dX6_changeTransaction_108 rfl (lv_at hl 0 rfl) ?_
    refine gC_X6_24 F hP dX6_changeTransaction_109 ?_
    obtain ⟨r1, M3, h3, hs⟩ := bn2_some hs
    refine x_callI (rest := []) wv_X6_79 F hS (fun _ h => h) hS.2.1 (tX7_undo l G A q hq h3) hP (x_recv (ci := 5) F hP rfl (by decide) (eC_2 G q _)) rfl hl.1 rfl ⟨Nat.le_of_ble_eq_true rfl, Nat.le_of_ble_eq_true rfl⟩ ⟨Nat.le_refl _, Nat.le_refl _⟩ (Nat.le_of_ble_eq_true rfl) dX6_changeTransaction_112 (fun H locs hP hS _ _ => ?_)
    refine lv_pop F.1 F.2.1 dX6_changeTransaction_115 rfl ?_
    refine lv_ldc (v := 65536) F.1 F.2.1 F.2.2.2.1 (F.ws m_1_67) dX6_changeTransaction_116 ?_
    cases hs
    exact x_iret F rfl rfl hP hS dX6_changeTransaction_118
  have hs := it_t c1 hs
  refine lv_bipush (v := 9) F.1 F.2.1 dX6_changeTransaction_49 rfl ?_
  cases hs
  exact x_iret F rfl rfl hP hS dX6_changeTransaction_51
set_option maxHeartbeats 4000000 in
set_option maxRecDepth 100000 in
theorem tX6_changeTransaction (l : Launch) (G : zG) (A : Nat → Prop) (q : Nat → Nat) (hq : zQD A 58 q) {M M' : St} {r : Int32} {w1 : Nat} (hw1 : w1 < 46) (hs : pX6_changeTransaction M w1 = some (r, M')) : zKI l yX6_changeTransaction cX6_changeTransaction 2 (some .int) 2 42 G A (zP G.1 58 q (eC G q) M) [.ref (q 1), .ref (G.2.2.1 w1)] r (zP G.1 58 q (eC G q) M') := by
  refine zKI_of (by decide) (Nat.le_of_ble_eq_true rfl) (fun p e s m args below meth c H ls F hH hP hl => ?_)
  have F : zFx p s m args meth c cX6_changeTransaction RX6 2 (some .int) G A := F
  have hS : va_S A s.heap H [] := hH ▸ va_S.rf
  have hl : lv_has ls 2 [(0, .ref (q 1)), (1, .ref (G.2.2.1 w1))] := hl
  rw [pX6_changeTransaction] at hs
  refine lv_aload_n F.1 F.2.1 dX6_changeTransaction_0 rfl (lv_at hl 1 rfl) ?_
  refine x_constE (i := 39) (by decide) (by decide) m_2_2 F hS dX6_changeTransaction_1 ?_
  refine x_acmp_ne (tgt := 27) F hw1 (show 39 < 46 by decide) dX6_changeTransaction_4 (by decide) (fun c1 => ?_) (fun c1 => ?_)
  · have hs := it_f c1 hs
    refine lv_aload_n F.1 F.2.1 dX6_changeTransaction_27 rfl (lv_at hl 0 rfl) ?_
    refine gC_X6_24 F hP dX6_changeTransaction_28 ?_
    refine gC_X6_312 F hP dX6_changeTransaction_31 ?_
    refine lv_aload_n F.1 F.2.1 dX6_changeTransaction_34 rfl (lv_at hl 1 rfl) ?_
    refine x_constE (i := 36) (by decide) (by decide) m_2_4 F hS dX6_changeTransaction_35 ?_
    refine x_acmp_ne (tgt := 45) F hw1 (show 36 < 46 by decide) dX6_changeTransaction_38 (by decide) (fun c2 => ?_) (fun c2 => ?_)
    · have hs := it_f c2 hs
      refine lv_iconst (v := 0) F.1 F.2.1 dX6_changeTransaction_45 rfl ?_
      exact tX6_changeTransaction_b46 hq hw1 hs F hP hS (lv_sub hl [0, 1] rfl)
    have hs := it_t c2 hs
    refine lv_iconst (v := 1) F.1 F.2.1 dX6_changeTransaction_41 rfl ?_
    refine lv_goto (tgt := 46) F.1 F.2.1 dX6_changeTransaction_42 (by decide) ?_
    exact tX6_changeTransaction_b46 hq hw1 hs F hP hS (lv_sub hl [0, 1] rfl)
  have hs := it_t c1 hs
  refine lv_aload_n F.1 F.2.1 dX6_changeTransaction_7 rfl (lv_at hl 0 rfl) ?_
  refine lv_aload_n F.1 F.2.1 dX6_changeTransaction_8 rfl (lv_at hl 0 rfl) ?_
  refine gC_X6_24 F hP dX6_changeTransaction_9 ?_
  refine gC_X6_312 F hP dX6_changeTransaction_12 ?_
  refine lv_if_eq (tgt := 22) F.1 F.2.1 dX6_changeTransaction_15 (by decide) (fun c3 => ?_) (fun c3 => ?_)
  · have hs := it_t c3 hs
    refine lv_iconst (v := 0) F.1 F.2.1 dX6_changeTransaction_22 rfl ?_
    obtain ⟨r1, M1, h1, hs⟩ := bn2_some hs
    refine x_callI (rest := []) wv_X6_193 F hS (fun _ h => h) hS.2.1 (tX6_put l G A q hq h1) hP (x_recv (ci := 4) F hP rfl (by decide) (eC_1 G q _)) rfl hl.1 rfl ⟨Nat.le_of_ble_eq_true rfl, Nat.le_of_ble_eq_true rfl⟩ ⟨Nat.le_refl _, Nat.le_refl _⟩ (Nat.le_of_ble_eq_true rfl) dX6_changeTransaction_23 (fun H locs hP hS _ _ => ?_)
    cases hs
    exact x_iret F rfl rfl hP hS dX6_changeTransaction_26
  have hs := it_f c3 hs
  refine lv_iconst (v := 1) F.1 F.2.1 dX6_changeTransaction_18 rfl ?_
  refine lv_goto (tgt := 23) F.1 F.2.1 dX6_changeTransaction_19 (by decide) ?_
  obtain ⟨r2, M2, h2, hs⟩ := bn2_some hs
  refine x_callI (rest := []) wv_X6_193 F hS (fun _ h => h) hS.2.1 (tX6_put l G A q hq h2) hP (x_recv (ci := 4) F hP rfl (by decide) (eC_1 G q _)) rfl hl.1 rfl ⟨Nat.le_of_ble_eq_true rfl, Nat.le_of_ble_eq_true rfl⟩ ⟨Nat.le_refl _, Nat.le_refl _⟩ (Nat.le_of_ble_eq_true rfl) dX6_changeTransaction_23 (fun H locs hP hS _ _ => ?_)
  cases hs
  exact x_iret F rfl rfl hP hS dX6_changeTransaction_26

def pX6_putCommandByte (M : St) (x1 : Int32) : Option (Int32 × St) :=
  bn (pX1_has M 22 x1) fun r1 =>
  if r1 = 0 then
    some (3, M)
  else
    gd (inb x1 32) <|
    bn2 (pX6_put M ((M (22 + 1) (ix x1)).toInt8.toInt32)) fun r2 M1 =>
    some (r2, M1)
set_option maxHeartbeats 4000000 in
set_option maxRecDepth 100000 in
theorem tX6_putCommandByte (l : Launch) (G : zG) (A : Nat → Prop) (q : Nat → Nat) (hq : zQD A 58 q) {M M' : St} {r : Int32} {x1 : Int32} (hs : pX6_putCommandByte M x1 = some (r, M')) : zKI l yX6_putCommandByte cX6_putCommandByte 2 (some .int) 2 42 G A (zP G.1 58 q (eC G q) M) [.ref (q 1), .int x1] r (zP G.1 58 q (eC G q) M') := by
  refine zKI_of (by decide) (Nat.le_of_ble_eq_true rfl) (fun p e s m args below meth c H ls F hH hP hl => ?_)
  have F : zFx p s m args meth c cX6_putCommandByte RX6 2 (some .int) G A := F
  have hS : va_S A s.heap H [] := hH ▸ va_S.rf
  have hl : lv_has ls 2 [(0, .ref (q 1)), (1, .int x1)] := hl
  rw [pX6_putCommandByte] at hs
  refine lv_aload_n F.1 F.2.1 dX6_putCommandByte_0 rfl (lv_at hl 0 rfl) ?_
  refine gC_X6_31 F hP dX6_putCommandByte_1 ?_
  refine lv_iload_n F.1 F.2.1 dX6_putCommandByte_4 rfl (lv_at hl 1 rfl) ?_
  obtain ⟨r1, h1, hs⟩ := bn_some hs
  refine x_callI (rest := []) wv_X6_329 F hS (fun _ h => h) hS.2.1 (tX1_has l G A q hq (by decide : 22 = 22 ∨ 22 = 24) h1) hP (x_recv (ci := 0) F hP rfl (by have := (by decide : 22 = 22 ∨ 22 = 24); omega) (eC_B G q (by decide : 22 = 22 ∨ 22 = 24) _)) rfl hl.1 rfl ⟨Nat.le_of_ble_eq_true rfl, Nat.le_of_ble_eq_true rfl⟩ ⟨Nat.le_refl _, Nat.le_refl _⟩ (Nat.le_of_ble_eq_true rfl) dX6_putCommandByte_5 (fun H locs hP hS _ _ => ?_)
  refine lv_if_eq (tgt := 28) F.1 F.2.1 dX6_putCommandByte_8 (by decide) (fun c1 => ?_) (fun c1 => ?_)
  · have hs := it_t c1 hs
    refine lv_iconst (v := 3) F.1 F.2.1 dX6_putCommandByte_28 rfl ?_
    cases hs
    exact x_iret F rfl rfl hP hS dX6_putCommandByte_29
  have hs := it_f c1 hs
  refine lv_aload_n F.1 F.2.1 dX6_putCommandByte_11 rfl (lv_at hl 0 rfl) ?_
  refine lv_aload_n F.1 F.2.1 dX6_putCommandByte_12 rfl (lv_at hl 0 rfl) ?_
  refine gC_X6_31 F hP dX6_putCommandByte_13 ?_
  refine gC_X6_330 (by decide : 22 = 22 ∨ 22 = 24) F hP dX6_putCommandByte_16 ?_
  refine lv_iload_n F.1 F.2.1 dX6_putCommandByte_19 rfl (lv_at hl 1 rfl) ?_
  obtain ⟨g1, hs⟩ := gd_some hs
  refine x_iald F hP (arC_B G q (by decide : 22 = 22 ∨ 22 = 24)) g1 dX6_putCommandByte_20 ?_
  refine lv_i2b F.1 F.2.1 dX6_putCommandByte_21 rfl ?_
  obtain ⟨r2, M1, h2, hs⟩ := bn2_some hs
  refine x_callI (rest := []) wv_X6_193 F hS (fun _ h => h) hS.2.1 (tX6_put l G A q hq h2) hP (x_recv (ci := 4) F hP rfl (by decide) (eC_1 G q _)) rfl hl.1 rfl ⟨Nat.le_of_ble_eq_true rfl, Nat.le_of_ble_eq_true rfl⟩ ⟨Nat.le_refl _, Nat.le_refl _⟩ (Nat.le_of_ble_eq_true rfl) dX6_putCommandByte_22 (fun H locs hP hS _ _ => ?_)
  refine lv_goto (tgt := 29) F.1 F.2.1 dX6_putCommandByte_25 (by decide) ?_
  cases hs
  exact x_iret F rfl rfl hP hS dX6_putCommandByte_29

def pX6_answerByte (M : St) (x1 : Int32) : Option (Int32 × St) :=
  bn (pX1_isFull M 24) fun r1 =>
  if r1 = 0 then
    bn (pX1_add M 24 x1) fun M1 =>
    some (65536, M1)
  else
    some (6, M)
set_option maxHeartbeats 4000000 in
set_option maxRecDepth 100000 in
theorem tX6_answerByte (l : Launch) (G : zG) (A : Nat → Prop) (q : Nat → Nat) (hq : zQD A 58 q) {M M' : St} {r : Int32} {x1 : Int32} (hs : pX6_answerByte M x1 = some (r, M')) : zKI l yX6_answerByte cX6_answerByte 2 (some .int) 1 21 G A (zP G.1 58 q (eC G q) M) [.ref (q 1), .int x1] r (zP G.1 58 q (eC G q) M') := by
  refine zKI_of (by decide) (Nat.le_of_ble_eq_true rfl) (fun p e s m args below meth c H ls F hH hP hl => ?_)
  have F : zFx p s m args meth c cX6_answerByte RX6 2 (some .int) G A := F
  have hS : va_S A s.heap H [] := hH ▸ va_S.rf
  have hl : lv_has ls 2 [(0, .ref (q 1)), (1, .int x1)] := hl
  rw [pX6_answerByte] at hs
  refine lv_aload_n F.1 F.2.1 dX6_answerByte_0 rfl (lv_at hl 0 rfl) ?_
  refine gC_X6_35 F hP dX6_answerByte_1 ?_
  obtain ⟨r1, h1, hs⟩ := bn_some hs
  refine x_callI (rest := []) wv_X6_333 F hS (fun _ h => h) hS.2.1 (tX1_isFull l G A q hq (by decide : 24 = 22 ∨ 24 = 24) h1) hP (x_recv (ci := 0) F hP rfl (by have := (by decide : 24 = 22 ∨ 24 = 24); omega) (eC_B G q (by decide : 24 = 22 ∨ 24 = 24) _)) rfl hl.1 rfl ⟨Nat.le_of_ble_eq_true rfl, Nat.le_of_ble_eq_true rfl⟩ ⟨Nat.le_refl _, Nat.le_refl _⟩ (Nat.le_of_ble_eq_true rfl) dX6_answerByte_4 (fun H locs hP hS _ _ => ?_)
  refine lv_if_eq (tgt := 13) F.1 F.2.1 dX6_answerByte_7 (by decide) (fun c1 => ?_) (fun c1 => ?_)
  · have hs := it_t c1 hs
    refine lv_aload_n F.1 F.2.1 dX6_answerByte_13 rfl (lv_at hl 0 rfl) ?_
    refine gC_X6_35 F hP dX6_answerByte_14 ?_
    refine lv_iload_n F.1 F.2.1 dX6_answerByte_17 rfl (lv_at hl 1 rfl) ?_
    obtain ⟨M1, h2, hs⟩ := bn_some hs
    refine x_callV (rest := []) wv_X6_336 F hS (fun _ h => h) hS.2.1 (tX1_add l G A q hq (by decide : 24 = 22 ∨ 24 = 24) h2) hP (x_recv (ci := 0) F hP rfl (by have := (by decide : 24 = 22 ∨ 24 = 24); omega) (eC_B G q (by decide : 24 = 22 ∨ 24 = 24) _)) rfl hl.1 rfl ⟨Nat.le_of_ble_eq_true rfl, Nat.le_of_ble_eq_true rfl⟩ ⟨Nat.le_refl _, Nat.le_refl _⟩ (Nat.le_of_ble_eq_true rfl) dX6_answerByte_18 (fun H locs hP hS _ _ => ?_)
    refine lv_ldc (v := 65536) F.1 F.2.1 F.2.2.2.1 (F.ws m_1_67) dX6_answerByte_21 ?_
    cases hs
    exact x_iret F rfl rfl hP hS dX6_answerByte_23
  have hs := it_f c1 hs
  refine lv_bipush (v := 6) F.1 F.2.1 dX6_answerByte_10 rfl ?_
  cases hs
  exact x_iret F rfl rfl hP hS dX6_answerByte_12

def pX6_talk (M : St) (w1 : Nat) : Option (Int32 × St) :=
  gd (inb (opOrd.getD w1 0) 46) <|
  if (opSw.getD (ix (opOrd.getD w1 0)) 0) = 30 then
    ic (M 1 10) 8 fun k1 =>
    bn2 (pX2_pop M k1) fun r1 M1 =>
    bn2 (pX6_putCommandByte M1 r1) fun r2 M2 =>
    some (r2, M2)
  else
  if (opSw.getD (ix (opOrd.getD w1 0)) 0) = 31 then
    bn2 (pX6_put M (M 22 1)) fun r3 M3 =>
    some (r3, M3)
  else
    ic (M 1 10) 8 fun k2 =>
    bn2 (pX2_pop M k2) fun r4 M4 =>
    bn2 (pX6_answerByte M4 (r4 &&& 255)) fun r5 M5 =>
    some (r5, M5)
set_option maxHeartbeats 4000000 in
set_option maxRecDepth 100000 in
theorem tX6_talk (l : Launch) (G : zG) (A : Nat → Prop) (q : Nat → Nat) (hq : zQD A 58 q) {M M' : St} {r : Int32} {w1 : Nat} (hw1 : w1 < 46) (hs : pX6_talk M w1 = some (r, M')) : zKI l yX6_talk cX6_talk 2 (some .int) 3 63 G A (zP G.1 58 q (eC G q) M) [.ref (q 1), .ref (G.2.2.1 w1)] r (zP G.1 58 q (eC G q) M') := by
  refine zKI_of (by decide) (Nat.le_of_ble_eq_true rfl) (fun p e s m args below meth c H ls F hH hP hl => ?_)
  have F : zFx p s m args meth c cX6_talk RX6 2 (some .int) G A := F
  have hS : va_S A s.heap H [] := hH ▸ va_S.rf
  have hl : lv_has ls 2 [(0, .ref (q 1)), (1, .ref (G.2.2.1 w1))] := hl
  rw [pX6_talk] at hs
  refine x_getS m_1_76 F hS dX6_talk_0 ?_
  refine lv_aload_n F.1 F.2.1 dX6_talk_3 rfl (lv_at hl 1 rfl) ?_
  refine x_ord m_1_78 F hS hw1 hP hl.1 ⟨Nat.le_of_ble_eq_true rfl, Nat.le_of_ble_eq_true rfl⟩ ⟨Nat.le_refl _, Nat.le_refl _⟩ (rest := [.ref G.2.2.2.2]) (Nat.le_of_ble_eq_true rfl) dX6_talk_4 (fun H locs hP hS => ?_)
  obtain ⟨g1, hs⟩ := gd_some hs
  refine x_ialdS F hS g1 dX6_talk_7 ?_
  by_cases c1 : (opSw.getD (ix (opOrd.getD w1 0)) 0) = 30
  · have hs := it_t c1 hs
    refine lv_lookup (off := 28) (tgt := 36) F.1 F.2.1 dX6_talk_8 (by decide) (by rw [c1]; rfl) (by decide) ?_
    refine lv_aload_n F.1 F.2.1 dX6_talk_36 rfl (lv_at hl 0 rfl) ?_
    refine lv_aload_n F.1 F.2.1 dX6_talk_37 rfl (lv_at hl 0 rfl) ?_
    obtain ⟨k1, hik1, hxk1, hk1, hs⟩ := ic_some hs
    refine gC_X6_99 hik1 hxk1 F hP dX6_talk_38 ?_
    obtain ⟨r1, M1, h1, hs⟩ := bn2_some hs
    refine x_callI (rest := [.ref (q 1)]) wv_X6_202 F hS (fun _ h => h) hS.2.1 (tX2_pop l G A q hq hk1 h1) hP (x_recv (ci := 1) F hP rfl (by have := hk1; omega) (eC_F G q hk1 _)) rfl hl.1 rfl ⟨Nat.le_of_ble_eq_true rfl, Nat.le_of_ble_eq_true rfl⟩ ⟨Nat.le_refl _, Nat.le_refl _⟩ (Nat.le_of_ble_eq_true rfl) dX6_talk_41 (fun H locs hP hS _ _ => ?_)
    obtain ⟨r2, M2, h2, hs⟩ := bn2_some hs
    refine x_callI (rest := []) wv_X6_323 F hS (fun _ h => h) hS.2.1 (tX6_putCommandByte l G A q hq h2) hP (x_recv (ci := 4) F hP rfl (by decide) (eC_1 G q _)) rfl hl.1 rfl ⟨Nat.le_of_ble_eq_true rfl, Nat.le_of_ble_eq_true rfl⟩ ⟨Nat.le_refl _, Nat.le_refl _⟩ (Nat.le_of_ble_eq_true rfl) dX6_talk_44 (fun H locs hP hS _ _ => ?_)
    cases hs
    exact x_iret F rfl rfl hP hS dX6_talk_47
  have hs := it_f c1 hs
  by_cases c2 : (opSw.getD (ix (opOrd.getD w1 0)) 0) = 31
  · have hs := it_t c2 hs
    refine lv_lookup (off := 40) (tgt := 48) F.1 F.2.1 dX6_talk_8 (by decide) (by rw [c2]; rfl) (by decide) ?_
    refine lv_aload_n F.1 F.2.1 dX6_talk_48 rfl (lv_at hl 0 rfl) ?_
    refine lv_aload_n F.1 F.2.1 dX6_talk_49 rfl (lv_at hl 0 rfl) ?_
    refine gC_X6_31 F hP dX6_talk_50 ?_
    refine gC_X6_83 (by decide : 22 = 22 ∨ 22 = 24) F hP dX6_talk_53 ?_
    obtain ⟨r3, M3, h3, hs⟩ := bn2_some hs
    refine x_callI (rest := []) wv_X6_193 F hS (fun _ h => h) hS.2.1 (tX6_put l G A q hq h3) hP (x_recv (ci := 4) F hP rfl (by decide) (eC_1 G q _)) rfl hl.1 rfl ⟨Nat.le_of_ble_eq_true rfl, Nat.le_of_ble_eq_true rfl⟩ ⟨Nat.le_refl _, Nat.le_refl _⟩ (Nat.le_of_ble_eq_true rfl) dX6_talk_56 (fun H locs hP hS _ _ => ?_)
    cases hs
    exact x_iret F rfl rfl hP hS dX6_talk_59
  have hs := it_f c2 hs
  refine lv_lookup (off := 52) (tgt := 60) F.1 F.2.1 dX6_talk_8 (by decide) (by show Op.lookupswitch.offset [(30, 28), (31, 40)] 52 _ = _; rw [lv_osw (a := 30) c1 rfl, lv_osw (a := 31) c2 rfl]; rfl) (by decide) ?_
  refine lv_aload_n F.1 F.2.1 dX6_talk_60 rfl (lv_at hl 0 rfl) ?_
  refine lv_aload_n F.1 F.2.1 dX6_talk_61 rfl (lv_at hl 0 rfl) ?_
  obtain ⟨k2, hik2, hxk2, hk2, hs⟩ := ic_some hs
  refine gC_X6_99 hik2 hxk2 F hP dX6_talk_62 ?_
  obtain ⟨r4, M4, h4, hs⟩ := bn2_some hs
  refine x_callI (rest := [.ref (q 1)]) wv_X6_202 F hS (fun _ h => h) hS.2.1 (tX2_pop l G A q hq hk2 h4) hP (x_recv (ci := 1) F hP rfl (by have := hk2; omega) (eC_F G q hk2 _)) rfl hl.1 rfl ⟨Nat.le_of_ble_eq_true rfl, Nat.le_of_ble_eq_true rfl⟩ ⟨Nat.le_refl _, Nat.le_refl _⟩ (Nat.le_of_ble_eq_true rfl) dX6_talk_65 (fun H locs hP hS _ _ => ?_)
  refine lv_sipush (v := 255) F.1 F.2.1 dX6_talk_68 rfl ?_
  refine lv_iand F.1 F.2.1 dX6_talk_71 ?_
  obtain ⟨r5, M5, h5, hs⟩ := bn2_some hs
  refine x_callI (rest := []) wv_X6_326 F hS (fun _ h => h) hS.2.1 (tX6_answerByte l G A q hq h5) hP (x_recv (ci := 4) F hP rfl (by decide) (eC_1 G q _)) rfl hl.1 rfl ⟨Nat.le_of_ble_eq_true rfl, Nat.le_of_ble_eq_true rfl⟩ ⟨Nat.le_refl _, Nat.le_refl _⟩ (Nat.le_of_ble_eq_true rfl) dX6_talk_72 (fun H locs hP hS _ _ => ?_)
  cases hs
  exact x_iret F rfl rfl hP hS dX6_talk_75

def pX6_step (M : St) : Option (Int32 × St) :=
  lt (up2 M 1 7 ((M 1 7) + 1)) fun M1 =>
  ic (M1 1 10) 8 fun k1 =>
  lt (up2 M1 1 11 (M1 (27 + k1) 4)) fun M2 =>
  bn (pX6_fetchFault M2) fun r1 =>
  if r1 = 65536 then
    gd (inb (M2 1 11) 512) <|
    ic (M2 4 (ix (M2 1 11))) 46 fun k2 =>
    ic (M2 1 10) 8 fun k3 =>
    lt (up2 M2 (27 + k3) 4 ((M2 1 11) + (opLength.getD k2 0))) fun M3 =>
    if (opKind.getD k2 0).toInt < 0 ∨ 6 < (opKind.getD k2 0).toInt then
      bn2 (pX6_throwOrHandle M3 k2) fun r2 M4 =>
      some (r2, M4)
    else
    if (opKind.getD k2 0) = 0 then
      bn2 (pX6_move M3 k2) fun r3 M5 =>
      some (r3, M5)
    else
    if (opKind.getD k2 0) = 1 then
      bn2 (pX6_reckon M3 k2) fun r4 M6 =>
      some (r4, M6)
    else
    if (opKind.getD k2 0) = 2 then
      bn2 (pX6_jump M3 k2) fun r5 M7 =>
      some (r5, M7)
    else
    if (opKind.getD k2 0) = 3 then
      bn2 (pX6_callOrEnd M3 k2) fun r6 M8 =>
      some (r6, M8)
    else
    if (opKind.getD k2 0) = 4 then
      bn2 (pX6_useObjects M3 k2) fun r7 M9 =>
      some (r7, M9)
    else
    if (opKind.getD k2 0) = 5 then
      bn2 (pX6_changeTransaction M3 k2) fun r8 M10 =>
      some (r8, M10)
    else
    if (opKind.getD k2 0) = 6 then
      bn2 (pX6_talk M3 k2) fun r9 M11 =>
      some (r9, M11)
    else
      none
  else
    some (r1, M2)
set_option maxHeartbeats 4000000 in
set_option maxRecDepth 100000 in
theorem tX6_step (l : Launch) (G : zG) (A : Nat → Prop) (q : Nat → Nat) (hq : zQD A 58 q) {M M' : St} {r : Int32} (hs : pX6_step M = some (r, M')) : zKI l yX6_step cX6_step 3 (some .int) 6 136 G A (zP G.1 58 q (eC G q) M) [.ref (q 1)] r (zP G.1 58 q (eC G q) M') := by
  refine zKI_of (by decide) (Nat.le_of_ble_eq_true rfl) (fun p e s m args below meth c H ls F hH hP hl => ?_)
  have F : zFx p s m args meth c cX6_step RX6 3 (some .int) G A := F
  have hS : va_S A s.heap H [] := hH ▸ va_S.rf
  have hl : lv_has ls 3 [(0, .ref (q 1))] := hl
  rw [pX6_step] at hs
  refine lv_aload_n F.1 F.2.1 dX6_step_0 rfl (lv_at hl 0 rfl) ?_
  refine lv_dup F.1 F.2.1 dX6_step_1 rfl ?_
  refine gC_X6_67 F hP dX6_step_2 ?_
  refine lv_iconst (v := 1) F.1 F.2.1 dX6_step_5 rfl ?_
  refine lv_iadd F.1 F.2.1 dX6_step_6 ?_
  obtain ⟨M1, eM1, hs⟩ := lt_some hs
  refine hC_X6_67 F hq hP hS eM1 dX6_step_7 (fun H locs hP hS => ?_)
  refine lv_aload_n F.1 F.2.1 dX6_step_10 rfl (lv_at hl 0 rfl) ?_
  refine lv_aload_n F.1 F.2.1 dX6_step_11 rfl (lv_at hl 0 rfl) ?_
  obtain ⟨k1, hik1, hxk1, hk1, hs⟩ := ic_some hs
  refine gC_X6_99 hik1 hxk1 F hP dX6_step_12 ?_
  refine gC_X6_103 hk1 F hP dX6_step_15 ?_
  obtain ⟨M2, eM2, hs⟩ := lt_some hs
  refine hC_X6_106 F hq hP hS eM2 dX6_step_18 (fun H locs hP hS => ?_)
  refine lv_aload_n F.1 F.2.1 dX6_step_21 rfl (lv_at hl 0 rfl) ?_
  obtain ⟨r1, h1, hs⟩ := bn_some hs
  refine x_callI (rest := []) wv_X6_109 F hS (fun _ h => h) hS.2.1 (tX6_fetchFault l G A q hq h1) hP (x_recv (ci := 4) F hP rfl (by decide) (eC_1 G q _)) rfl hl.1 rfl ⟨Nat.le_of_ble_eq_true rfl, Nat.le_of_ble_eq_true rfl⟩ ⟨Nat.le_refl _, Nat.le_refl _⟩ (Nat.le_of_ble_eq_true rfl) dX6_step_22 (fun H locs hP hS _ _ => ?_)
  refine lv_istore_n (lv' := [(1, .int r1), (0, .ref (q 1))]) F.1 F.2.1 dX6_step_25 rfl hl (by decide) rfl (fun ls hl => ?_)
  refine lv_iload_n F.1 F.2.1 dX6_step_26 rfl (lv_at hl 0 rfl) ?_
  refine lv_ldc (v := 65536) F.1 F.2.1 F.2.2.2.1 (F.ws m_1_67) dX6_step_27 ?_
  refine lv_icmp_eq (tgt := 34) F.1 F.2.1 dX6_step_29 (by decide) (fun c1 => ?_) (fun c1 => ?_)
  · have hs := it_t c1 hs
    refine x_getO F hS dX6_step_34 ?_
    refine lv_aload_n F.1 F.2.1 dX6_step_37 rfl (lv_at hl 1 rfl) ?_
    refine gC_X6_9 F hP dX6_step_38 ?_
    refine lv_aload_n F.1 F.2.1 dX6_step_41 rfl (lv_at hl 1 rfl) ?_
    refine gC_X6_106 F hP dX6_step_42 ?_
    obtain ⟨g1, hs⟩ := gd_some hs
    refine x_iald F hP (arC_4 G q) g1 dX6_step_45 ?_
    obtain ⟨k2, hik2, hxk2, hk2, hs⟩ := ic_some hs
    refine x_aaldO hxk2 F hS hik2 dX6_step_46 ?_
    refine lv_astore_n (lv' := [(2, .ref (G.2.2.1 k2)), (1, .int r1), (0, .ref (q 1))]) F.1 F.2.1 dX6_step_47 rfl hl (by decide) rfl (fun ls hl => ?_)
    refine lv_aload_n F.1 F.2.1 dX6_step_48 rfl (lv_at hl 2 rfl) ?_
    obtain ⟨k3, hik3, hxk3, hk3, hs⟩ := ic_some hs
    refine gC_X6_99 hik3 hxk3 F hP dX6_step_49 ?_
    refine lv_aload_n F.1 F.2.1 dX6_step_52 rfl (lv_at hl 2 rfl) ?_
    refine gC_X6_106 F hP dX6_step_53 ?_
    refine lv_aload_n F.1 F.2.1 dX6_step_56 rfl (lv_at hl 0 rfl) ?_
    refine x_getE e_length m_3_168 F hS hk2 dX6_step_57 ?_
    refine lv_iadd F.1 F.2.1 dX6_step_60 ?_
    obtain ⟨M3, eM3, hs⟩ := lt_some hs
    refine hC_X6_103 hk3 F hq hP hS eM3 dX6_step_61 (fun H locs hP hS => ?_)
    refine lv_aload_n F.1 F.2.1 dX6_step_64 rfl (lv_at hl 0 rfl) ?_
    refine x_getE e_kind m_3_171 F hS hk2 dX6_step_65 ?_
    by_cases c2 : (opKind.getD k2 0).toInt < 0 ∨ 6 < (opKind.getD k2 0).toInt
    · have hs := it_t c2 hs
      refine lv_tableOut (tgt := 154) F.1 F.2.1 dX6_step_68 c2 (by decide) ?_
      refine lv_aload_n F.1 F.2.1 dX6_step_154 rfl (lv_at hl 2 rfl) ?_
      refine lv_aload_n F.1 F.2.1 dX6_step_155 rfl (lv_at hl 0 rfl) ?_
      obtain ⟨r2, M4, h2, hs⟩ := bn2_some hs
      refine x_callI (rest := []) wv_X6_144 F hS (fun _ h => h) hS.2.1 (tX6_throwOrHandle l G A q hq hk2 h2) hP (x_recv (ci := 4) F hP rfl (by decide) (eC_1 G q _)) rfl hl.1 rfl ⟨Nat.le_of_ble_eq_true rfl, Nat.le_of_ble_eq_true rfl⟩ ⟨Nat.le_refl _, Nat.le_refl _⟩ (Nat.le_of_ble_eq_true rfl) dX6_step_156 (fun H locs hP hS _ _ => ?_)
      cases hs
      exact x_iret F rfl rfl hP hS dX6_step_159
    have hs := it_f c2 hs
    by_cases c3 : (opKind.getD k2 0) = 0
    · have hs := it_t c3 hs
      refine lv_tableIn (off := 44) (tgt := 112) F.1 F.2.1 dX6_step_68 (by rw [c3]; decide) (by rw [c3]; decide) (by rw [c3]; rfl) (by decide) ?_
      refine lv_aload_n F.1 F.2.1 dX6_step_112 rfl (lv_at hl 2 rfl) ?_
      refine lv_aload_n F.1 F.2.1 dX6_step_113 rfl (lv_at hl 0 rfl) ?_
      obtain ⟨r3, M5, h3, hs⟩ := bn2_some hs
      refine x_callI (rest := []) wv_X6_122 F hS (fun _ h => h) hS.2.1 (tX6_move l G A q hq hk2 h3) hP (x_recv (ci := 4) F hP rfl (by decide) (eC_1 G q _)) rfl hl.1 rfl ⟨Nat.le_of_ble_eq_true rfl, Nat.le_of_ble_eq_true rfl⟩ ⟨Nat.le_refl _, Nat.le_refl _⟩ (Nat.le_of_ble_eq_true rfl) dX6_step_114 (fun H locs hP hS _ _ => ?_)
      cases hs
      exact x_iret F rfl rfl hP hS dX6_step_117
    have hs := it_f c3 hs
    by_cases c4 : (opKind.getD k2 0) = 1
    · have hs := it_t c4 hs
      refine lv_tableIn (off := 50) (tgt := 118) F.1 F.2.1 dX6_step_68 (by rw [c4]; decide) (by rw [c4]; decide) (by rw [c4]; rfl) (by decide) ?_
      refine lv_aload_n F.1 F.2.1 dX6_step_118 rfl (lv_at hl 2 rfl) ?_
      refine lv_aload_n F.1 F.2.1 dX6_step_119 rfl (lv_at hl 0 rfl) ?_
      obtain ⟨r4, M6, h4, hs⟩ := bn2_some hs
      refine x_callI (rest := []) wv_X6_126 F hS (fun _ h => h) hS.2.1 (tX6_reckon l G A q hq hk2 h4) hP (x_recv (ci := 4) F hP rfl (by decide) (eC_1 G q _)) rfl hl.1 rfl ⟨Nat.le_of_ble_eq_true rfl, Nat.le_of_ble_eq_true rfl⟩ ⟨Nat.le_refl _, Nat.le_refl _⟩ (Nat.le_of_ble_eq_true rfl) dX6_step_120 (fun H locs hP hS _ _ => ?_)
      cases hs
      exact x_iret F rfl rfl hP hS dX6_step_123
    have hs := it_f c4 hs
    by_cases c5 : (opKind.getD k2 0) = 2
    · have hs := it_t c5 hs
      refine lv_tableIn (off := 56) (tgt := 124) F.1 F.2.1 dX6_step_68 (by rw [c5]; decide) (by rw [c5]; decide) (by rw [c5]; rfl) (by decide) ?_
      refine lv_aload_n F.1 F.2.1 dX6_step_124 rfl (lv_at hl 2 rfl) ?_
      refine lv_aload_n F.1 F.2.1 dX6_step_125 rfl (lv_at hl 0 rfl) ?_
      obtain ⟨r5, M7, h5, hs⟩ := bn2_some hs
      refine x_callI (rest := []) wv_X6_129 F hS (fun _ h => h) hS.2.1 (tX6_jump l G A q hq hk2 h5) hP (x_recv (ci := 4) F hP rfl (by decide) (eC_1 G q _)) rfl hl.1 rfl ⟨Nat.le_of_ble_eq_true rfl, Nat.le_of_ble_eq_true rfl⟩ ⟨Nat.le_refl _, Nat.le_refl _⟩ (Nat.le_of_ble_eq_true rfl) dX6_step_126 (fun H locs hP hS _ _ => ?_)
      cases hs
      exact x_iret F rfl rfl hP hS dX6_step_129
    have hs := it_f c5 hs
    by_cases c6 : (opKind.getD k2 0) = 3
    · have hs := it_t c6 hs
      refine lv_tableIn (off := 62) (tgt := 130) F.1 F.2.1 dX6_step_68 (by rw [c6]; decide) (by rw [c6]; decide) (by rw [c6]; rfl) (by decide) ?_
      refine lv_aload_n F.1 F.2.1 dX6_step_130 rfl (lv_at hl 2 rfl) ?_
      refine lv_aload_n F.1 F.2.1 dX6_step_131 rfl (lv_at hl 0 rfl) ?_
      obtain ⟨r6, M8, h6, hs⟩ := bn2_some hs
      refine x_callI (rest := []) wv_X6_132 F hS (fun _ h => h) hS.2.1 (tX6_callOrEnd l G A q hq hk2 h6) hP (x_recv (ci := 4) F hP rfl (by decide) (eC_1 G q _)) rfl hl.1 rfl ⟨Nat.le_of_ble_eq_true rfl, Nat.le_of_ble_eq_true rfl⟩ ⟨Nat.le_refl _, Nat.le_refl _⟩ (Nat.le_of_ble_eq_true rfl) dX6_step_132 (fun H locs hP hS _ _ => ?_)
      cases hs
      exact x_iret F rfl rfl hP hS dX6_step_135
    have hs := it_f c6 hs
    by_cases c7 : (opKind.getD k2 0) = 4
    · have hs := it_t c7 hs
      refine lv_tableIn (off := 68) (tgt := 136) F.1 F.2.1 dX6_step_68 (by rw [c7]; decide) (by rw [c7]; decide) (by rw [c7]; rfl) (by decide) ?_
      refine lv_aload_n F.1 F.2.1 dX6_step_136 rfl (lv_at hl 2 rfl) ?_
      refine lv_aload_n F.1 F.2.1 dX6_step_137 rfl (lv_at hl 0 rfl) ?_
      obtain ⟨r7, M9, h7, hs⟩ := bn2_some hs
      refine x_callI (rest := []) wv_X6_135 F hS (fun _ h => h) hS.2.1 (tX6_useObjects l G A q hq hk2 h7) hP (x_recv (ci := 4) F hP rfl (by decide) (eC_1 G q _)) rfl hl.1 rfl ⟨Nat.le_of_ble_eq_true rfl, Nat.le_of_ble_eq_true rfl⟩ ⟨Nat.le_refl _, Nat.le_refl _⟩ (Nat.le_of_ble_eq_true rfl) dX6_step_138 (fun H locs hP hS _ _ => ?_)
      cases hs
      exact x_iret F rfl rfl hP hS dX6_step_141
    have hs := it_f c7 hs
    by_cases c8 : (opKind.getD k2 0) = 5
    · have hs := it_t c8 hs
      refine lv_tableIn (off := 74) (tgt := 142) F.1 F.2.1 dX6_step_68 (by rw [c8]; decide) (by rw [c8]; decide) (by rw [c8]; rfl) (by decide) ?_
      refine lv_aload_n F.1 F.2.1 dX6_step_142 rfl (lv_at hl 2 rfl) ?_
      refine lv_aload_n F.1 F.2.1 dX6_step_143 rfl (lv_at hl 0 rfl) ?_
      obtain ⟨r8, M10, h8, hs⟩ := bn2_some hs
      refine x_callI (rest := []) wv_X6_138 F hS (fun _ h => h) hS.2.1 (tX6_changeTransaction l G A q hq hk2 h8) hP (x_recv (ci := 4) F hP rfl (by decide) (eC_1 G q _)) rfl hl.1 rfl ⟨Nat.le_of_ble_eq_true rfl, Nat.le_of_ble_eq_true rfl⟩ ⟨Nat.le_refl _, Nat.le_refl _⟩ (Nat.le_of_ble_eq_true rfl) dX6_step_144 (fun H locs hP hS _ _ => ?_)
      cases hs
      exact x_iret F rfl rfl hP hS dX6_step_147
    have hs := it_f c8 hs
    by_cases c9 : (opKind.getD k2 0) = 6
    · have hs := it_t c9 hs
      refine lv_tableIn (off := 80) (tgt := 148) F.1 F.2.1 dX6_step_68 (by rw [c9]; decide) (by rw [c9]; decide) (by rw [c9]; rfl) (by decide) ?_
      refine lv_aload_n F.1 F.2.1 dX6_step_148 rfl (lv_at hl 2 rfl) ?_
      refine lv_aload_n F.1 F.2.1 dX6_step_149 rfl (lv_at hl 0 rfl) ?_
      obtain ⟨r9, M11, h9, hs⟩ := bn2_some hs
      refine x_callI (rest := []) wv_X6_141 F hS (fun _ h => h) hS.2.1 (tX6_talk l G A q hq hk2 h9) hP (x_recv (ci := 4) F hP rfl (by decide) (eC_1 G q _)) rfl hl.1 rfl ⟨Nat.le_of_ble_eq_true rfl, Nat.le_of_ble_eq_true rfl⟩ ⟨Nat.le_refl _, Nat.le_refl _⟩ (Nat.le_of_ble_eq_true rfl) dX6_step_150 (fun H locs hP hS _ _ => ?_)
      cases hs
      exact x_iret F rfl rfl hP hS dX6_step_153
    have hs := it_f c9 hs
    cases hs
  have hs := it_f c1 hs
  refine lv_iload_n F.1 F.2.1 dX6_step_32 rfl (lv_at hl 0 rfl) ?_
  cases hs
  exact x_iret F rfl rfl hP hS dX6_step_33

def pX6_raise_b5 : Nat → St → Int32 → Int32 → Option St
  | 0, _, _, _ => none
  | n + 1, M, x1, x2 =>
    if x2 ≤ 0 then
      lt (up2 M 1 13 20) fun M1 =>
      lt (up2 M1 1 5 x1) fun M2 =>
      some M2
    else
      ic (M 1 10) 8 fun k1 =>
      if M (27 + k1) 5 = (-1024) then
        bn (pX6_leave M) fun M3 =>
        pX6_raise_b5 n M3 x1 (x2 + (-1))
      else
        ic (M 1 10) 8 fun k2 =>
        bn (pX2_handle M k2 x1) fun M4 =>
        some M4
def pX6_raise (M : St) (x1 : Int32) : Option St :=
  pX6_raise_b5 LF M x1 (M 1 9)
set_option maxHeartbeats 4000000 in
set_option maxRecDepth 100000 in
theorem tX6_raise_b5 (n : Nat) {G : zG} {A : Nat → Prop} {q : Nat → Nat} (hq : zQD A 58 q) {M' : St} : ∀ {M : St} {x1 : Int32} {x2 : Int32} (hs : pX6_raise_b5 n M x1 x2 = some M') {p : Program} {l : Launch} {e : Env} {s : State} {m : MethodId} {args : Array Value} {below : List Frame} {meth : Method} {c : Code} {H : Heap} {locs : List Loc} {ls : Array Slot} (F : zFx p s m args meth c cX6_raise RX6 3 none G A) (hP : (zP G.1 58 q (eC G q) M) H) (hS : va_S A s.heap H locs) (hl : lv_has ls 3 [(0, .ref (q 1)), (1, .int x1), (2, .int x2)]), W p l e { frames := 2, cells := 0, slots := 0, locals := 42 } s m args below meth c H locs 0 0 (MQ below (va_Qv (fun (_ : Unit) => True) (fun _ U => (zP G.1 58 q (eC G q) M') U.heap) A) args s 0 0 A) (F0 m 5 ls []) := by
  induction n with
  | zero =>
    intro M x1 x2 hs p l e s m args below meth c H locs ls F hP hS hl
    rw [pX6_raise_b5] at hs
    cases hs
  | succ n ih =>
    intro M x1 x2 hs p l e s m args below meth c H locs ls F hP hS hl
    rw [pX6_raise_b5] at hs
    refine lv_iload_n F.1 F.2.1 dX6_raise_5 rfl (lv_at hl 2 rfl) ?_
    refine lv_if_le (tgt := 41) F.1 F.2.1 dX6_raise_6 (by decide) (fun c1 => ?_) (fun c1 => ?_)
    · have hs := it_t c1 hs
      refine lv_aload_n F.1 F.2.1 dX6_raise_41 rfl (lv_at hl 0 rfl) ?_
      refine lv_bipush (v := 20) F.1 F.2.1 dX6_raise_42 rfl ?_
      obtain ⟨M1, eM1, hs⟩ := lt_some hs
      refine hC_X6_54 F hq hP hS eM1 dX6_raise_44 (fun H locs hP hS => ?_)
      refine lv_aload_n F.1 F.2.1 dX6_raise_47 rfl (lv_at hl 0 rfl) ?_
      refine lv_iload_n F.1 F.2.1 dX6_raise_48 rfl (lv_at hl 1 rfl) ?_
      obtain ⟨M2, eM2, hs⟩ := lt_some hs
      refine hC_X6_86 F hq hP hS eM2 dX6_raise_49 (fun H locs hP hS => ?_)
      cases hs
      exact x_vret F hP hS dX6_raise_52
    have hs := it_f c1 hs
    refine lv_aload_n F.1 F.2.1 dX6_raise_9 rfl (lv_at hl 0 rfl) ?_
    obtain ⟨k1, hik1, hxk1, hk1, hs⟩ := ic_some hs
    refine gC_X6_99 hik1 hxk1 F hP dX6_raise_10 ?_
    refine gC_X6_167 hk1 F hP dX6_raise_13 ?_
    refine lv_sipush (v := (-1024)) F.1 F.2.1 dX6_raise_16 rfl ?_
    refine lv_icmp_eq (tgt := 31) F.1 F.2.1 dX6_raise_19 (by decide) (fun c2 => ?_) (fun c2 => ?_)
    · have hs := it_t c2 hs
      refine lv_aload_n F.1 F.2.1 dX6_raise_31 rfl (lv_at hl 0 rfl) ?_
      obtain ⟨M3, h1, hs⟩ := bn_some hs
      refine x_callV (rest := []) wv_X6_173 F hS (fun _ h => h) hS.2.1 (tX6_leave l G A q hq h1) hP (x_recv (ci := 4) F hP rfl (by decide) (eC_1 G q _)) rfl hl.1 rfl ⟨Nat.le_of_ble_eq_true rfl, Nat.le_of_ble_eq_true rfl⟩ ⟨Nat.le_refl _, Nat.le_refl _⟩ (Nat.le_of_ble_eq_true rfl) dX6_raise_32 (fun H locs hP hS _ _ => ?_)
      refine lv_iinc (v := x2 + (-1)) (lv' := [(2, .int (x2 + (-1))), (0, .ref (q 1)), (1, .int x1)]) F.1 F.2.1 dX6_raise_35 hl (k := 2) rfl rfl (by decide) rfl (fun ls hl => ?_)
      refine lv_goto (tgt := 5) F.1 F.2.1 dX6_raise_38 (by decide) ?_
      exact ih hs F hP hS (lv_sub hl [1, 2, 0] rfl)
    have hs := it_f c2 hs
    refine lv_aload_n F.1 F.2.1 dX6_raise_22 rfl (lv_at hl 0 rfl) ?_
    obtain ⟨k2, hik2, hxk2, hk2, hs⟩ := ic_some hs
    refine gC_X6_99 hik2 hxk2 F hP dX6_raise_23 ?_
    refine lv_iload_n F.1 F.2.1 dX6_raise_26 rfl (lv_at hl 1 rfl) ?_
    obtain ⟨M4, h2, hs⟩ := bn_some hs
    refine x_callV (rest := []) wv_X6_170 F hS (fun _ h => h) hS.2.1 (tX2_handle l G A q hq hk2 h2) hP (x_recv (ci := 1) F hP rfl (by have := hk2; omega) (eC_F G q hk2 _)) rfl hl.1 rfl ⟨Nat.le_of_ble_eq_true rfl, Nat.le_of_ble_eq_true rfl⟩ ⟨Nat.le_refl _, Nat.le_refl _⟩ (Nat.le_of_ble_eq_true rfl) dX6_raise_27 (fun H locs hP hS _ _ => ?_)
    cases hs
    exact x_vret F hP hS dX6_raise_30
set_option maxHeartbeats 4000000 in
set_option maxRecDepth 100000 in
theorem tX6_raise (l : Launch) (G : zG) (A : Nat → Prop) (q : Nat → Nat) (hq : zQD A 58 q) {M M' : St} {x1 : Int32} (hs : pX6_raise M x1 = some M') : zKV l yX6_raise cX6_raise 3 2 42 G A (zP G.1 58 q (eC G q) M) [.ref (q 1), .int x1] (zP G.1 58 q (eC G q) M') := by
  refine zKV_of (by decide) (Nat.le_of_ble_eq_true rfl) (fun p e s m args below meth c H ls F hH hP hl => ?_)
  have F : zFx p s m args meth c cX6_raise RX6 3 none G A := F
  have hS : va_S A s.heap H [] := hH ▸ va_S.rf
  have hl : lv_has ls 3 [(0, .ref (q 1)), (1, .int x1)] := hl
  rw [pX6_raise] at hs
  refine lv_aload_n F.1 F.2.1 dX6_raise_0 rfl (lv_at hl 0 rfl) ?_
  refine gC_X6_92 F hP dX6_raise_1 ?_
  refine lv_istore_n (lv' := [(2, .int (M 1 9)), (0, .ref (q 1)), (1, .int x1)]) F.1 F.2.1 dX6_raise_4 rfl hl (by decide) rfl (fun ls hl => ?_)
  exact tX6_raise_b5 LF hq hs F hP hS (lv_sub hl [1, 2, 0] rfl)

def pX6_perform_b82 (M : St) : Option (Int32 × St) :=
  if M 3 0 = 0 then
    lt (up2 M 1 13 ((-2))) fun M1 =>
    lt (up2 M1 24 1 0) fun M2 =>
    lt (up2 M2 22 1 0) fun M3 =>
    some (M3 1 13, M3)
  else
    bn2 (pX7_undo M) fun r1 M4 =>
    lt (up2 M4 22 1 0) fun M5 =>
    some (M5 1 13, M5)
def pX6_perform_b8 : Nat → St → Int32 → Option (Int32 × St)
  | 0, _, _ => none
  | n + 1, M, x3 =>
    if M 1 12 < x3 then
      pX6_perform_b82 M
    else
      if M 1 13 = 1 then
        if M 3 0 = 0 then
          pX6_perform_b82 M
        else
          if M 1 7 < M 1 12 then
            bn2 (pX6_step M) fun r1 M1 =>
            if r1 = 65536 then
              pX6_perform_b8 n M1 (x3 + 1)
            else
              bn (pX6_raise M1 r1) fun M2 =>
              pX6_perform_b8 n M2 (x3 + 1)
          else
            lt (up2 M 1 13 10) fun M3 =>
            pX6_perform_b8 n M3 (x3 + 1)
      else
        pX6_perform_b82 M
def pX6_perform (M : St) (w1 : Nat) (x2 : Int32) : Option (Int32 × St) :=
  bn (pX6_begin M w1 x2) fun M1 =>
  pX6_perform_b8 LF M1 0
set_option maxHeartbeats 4000000 in
set_option maxRecDepth 100000 in
theorem tX6_perform_b82 {G : zG} {A : Nat → Prop} {q : Nat → Nat} (hq : zQD A 58 q) {M M' : St} {r : Int32} (hs : pX6_perform_b82 M = some (r, M')) {p : Program} {l : Launch} {e : Env} {s : State} {m : MethodId} {args : Array Value} {below : List Frame} {meth : Method} {c : Code} {H : Heap} {locs : List Loc} {ls : Array Slot} (F : zFx p s m args meth c cX6_perform RX6 5 (some .int) G A) (hP : (zP G.1 58 q (eC G q) M) H) (hS : va_S A s.heap H locs) (hl : lv_has ls 5 [(0, .ref (q 1))]) : W p l e { frames := 7, cells := 0, slots := 0, locals := 158 } s m args below meth c H locs 0 0 (MQ below (va_Qi (fun (r' : Int32) (_ : Unit) => r' = r) (fun _ U => (zP G.1 58 q (eC G q) M') U.heap) A) args s 0 0 A) (F0 m 82 ls []) := by
  rw [pX6_perform_b82] at hs
  refine lv_aload_n F.1 F.2.1 dX6_perform_82 rfl (lv_at hl 0 rfl) ?_
  refine gC_X6_24 F hP dX6_perform_83 ?_
  refine gC_X6_57 F hP dX6_perform_86 ?_
  refine gC_X6_61 F hP dX6_perform_89 ?_
  refine lv_if_eq (tgt := 106) F.1 F.2.1 dX6_perform_92 (by decide) (fun c1 => ?_) (fun c1 => ?_)
  · have hs := it_t c1 hs
    refine lv_aload_n F.1 F.2.1 dX6_perform_106 rfl (lv_at hl 0 rfl) ?_
    refine lv_bipush (v := (-2)) F.1 F.2.1 dX6_perform_107 rfl ?_
    obtain ⟨M1, eM1, hs⟩ := lt_some hs
    refine hC_X6_54 F hq hP hS eM1 dX6_perform_109 (fun H locs hP hS => ?_)
    refine lv_aload_n F.1 F.2.1 dX6_perform_112 rfl (lv_at hl 0 rfl) ?_
    refine gC_X6_35 F hP dX6_perform_113 ?_
    refine lv_iconst (v := 0) F.1 F.2.1 dX6_perform_116 rfl ?_
    obtain ⟨M2, eM2, hs⟩ := lt_some hs
    refine hC_X6_83 (by decide : 24 = 22 ∨ 24 = 24) F hq hP hS eM2 dX6_perform_117 (fun H locs hP hS => ?_)
    refine lv_aload_n F.1 F.2.1 dX6_perform_120 rfl (lv_at hl 0 rfl) ?_
    refine gC_X6_31 F hP dX6_perform_121 ?_
    refine lv_iconst (v := 0) F.1 F.2.1 dX6_perform_124 rfl ?_
    obtain ⟨M3, eM3, hs⟩ := lt_some hs
    refine hC_X6_83 (by decide : 22 = 22 ∨ 22 = 24) F hq hP hS eM3 dX6_perform_125 (fun H locs hP hS => ?_)
    refine lv_aload_n F.1 F.2.1 dX6_perform_128 rfl (lv_at hl 0 rfl) ?_
    refine gC_X6_54 F hP dX6_perform_129 ?_
    cases hs
    exact x_iret F rfl rfl hP hS dX6_perform_132
  have hs := it_f c1 hs
  refine lv_aload_n F.1 F.2.1 dX6_perform_95 rfl (lv_at hl 0 rfl) ?_
  refine gC_X6_24 F hP dX6_perform_96 ?_
  obtain ⟨r1, M4, h1, hs⟩ := bn2_some hs
  refine x_callI (rest := []) wv_X6_79 F hS (fun _ h => h) hS.2.1 (tX7_undo l G A q hq h1) hP (x_recv (ci := 5) F hP rfl (by decide) (eC_2 G q _)) rfl hl.1 rfl ⟨Nat.le_of_ble_eq_true rfl, Nat.le_of_ble_eq_true rfl⟩ ⟨Nat.le_refl _, Nat.le_refl _⟩ (Nat.le_of_ble_eq_true rfl) dX6_perform_99 (fun H locs hP hS _ _ => ?_)
  refine lv_pop F.1 F.2.1 dX6_perform_102 rfl ?_
  refine lv_goto (tgt := 120) F.1 F.2.1 dX6_perform_103 (by decide) ?_
  refine lv_aload_n F.1 F.2.1 dX6_perform_120 rfl (lv_at hl 0 rfl) ?_
  refine gC_X6_31 F hP dX6_perform_121 ?_
  refine lv_iconst (v := 0) F.1 F.2.1 dX6_perform_124 rfl ?_
  obtain ⟨M5, eM5, hs⟩ := lt_some hs
  refine hC_X6_83 (by decide : 22 = 22 ∨ 22 = 24) F hq hP hS eM5 dX6_perform_125 (fun H locs hP hS => ?_)
  refine lv_aload_n F.1 F.2.1 dX6_perform_128 rfl (lv_at hl 0 rfl) ?_
  refine gC_X6_54 F hP dX6_perform_129 ?_
  cases hs
  exact x_iret F rfl rfl hP hS dX6_perform_132
set_option maxHeartbeats 4000000 in
set_option maxRecDepth 100000 in
theorem tX6_perform_b8 (n : Nat) {G : zG} {A : Nat → Prop} {q : Nat → Nat} (hq : zQD A 58 q) {M' : St} {r : Int32} : ∀ {M : St} {x3 : Int32} (hs : pX6_perform_b8 n M x3 = some (r, M')) {p : Program} {l : Launch} {e : Env} {s : State} {m : MethodId} {args : Array Value} {below : List Frame} {meth : Method} {c : Code} {H : Heap} {locs : List Loc} {ls : Array Slot} (F : zFx p s m args meth c cX6_perform RX6 5 (some .int) G A) (hP : (zP G.1 58 q (eC G q) M) H) (hS : va_S A s.heap H locs) (hl : lv_has ls 5 [(0, .ref (q 1)), (3, .int x3)]), W p l e { frames := 7, cells := 0, slots := 0, locals := 158 } s m args below meth c H locs 0 0 (MQ below (va_Qi (fun (r' : Int32) (_ : Unit) => r' = r) (fun _ U => (zP G.1 58 q (eC G q) M') U.heap) A) args s 0 0 A) (F0 m 8 ls []) := by
  induction n with
  | zero =>
    intro M x3 hs p l e s m args below meth c H locs ls F hP hS hl
    rw [pX6_perform_b8] at hs
    cases hs
  | succ n ih =>
    intro M x3 hs p l e s m args below meth c H locs ls F hP hS hl
    rw [pX6_perform_b8] at hs
    refine lv_iload_n F.1 F.2.1 dX6_perform_8 rfl (lv_at hl 1 rfl) ?_
    refine lv_aload_n F.1 F.2.1 dX6_perform_9 rfl (lv_at hl 0 rfl) ?_
    refine gC_X6_50 F hP dX6_perform_10 ?_
    refine lv_icmp_gt (tgt := 82) F.1 F.2.1 dX6_perform_13 (by decide) (fun c1 => ?_) (fun c1 => ?_)
    · have hs := it_t c1 hs
      exact tX6_perform_b82 hq hs F hP hS (lv_sub hl [0] rfl)
    have hs := it_f c1 hs
    refine lv_aload_n F.1 F.2.1 dX6_perform_16 rfl (lv_at hl 0 rfl) ?_
    refine gC_X6_54 F hP dX6_perform_17 ?_
    refine lv_iconst (v := 1) F.1 F.2.1 dX6_perform_20 rfl ?_
    refine lv_icmp_ne (tgt := 82) F.1 F.2.1 dX6_perform_21 (by decide) (fun c2 => ?_) (fun c2 => ?_)
    · have hs := it_f c2 hs
      exact tX6_perform_b82 hq hs F hP hS (lv_sub hl [0] rfl)
    have hs := it_t c2 hs
    refine lv_aload_n F.1 F.2.1 dX6_perform_24 rfl (lv_at hl 0 rfl) ?_
    refine gC_X6_24 F hP dX6_perform_25 ?_
    refine gC_X6_57 F hP dX6_perform_28 ?_
    refine gC_X6_61 F hP dX6_perform_31 ?_
    refine lv_if_eq (tgt := 82) F.1 F.2.1 dX6_perform_34 (by decide) (fun c3 => ?_) (fun c3 => ?_)
    · have hs := it_t c3 hs
      exact tX6_perform_b82 hq hs F hP hS (lv_sub hl [0] rfl)
    have hs := it_f c3 hs
    refine lv_aload_n F.1 F.2.1 dX6_perform_37 rfl (lv_at hl 0 rfl) ?_
    refine gC_X6_67 F hP dX6_perform_38 ?_
    refine lv_aload_n F.1 F.2.1 dX6_perform_41 rfl (lv_at hl 0 rfl) ?_
    refine gC_X6_50 F hP dX6_perform_42 ?_
    refine lv_icmp_lt (tgt := 57) F.1 F.2.1 dX6_perform_45 (by decide) (fun c4 => ?_) (fun c4 => ?_)
    · have hs := it_t c4 hs
      refine lv_aload_n F.1 F.2.1 dX6_perform_57 rfl (lv_at hl 0 rfl) ?_
      obtain ⟨r1, M1, h1, hs⟩ := bn2_some hs
      refine x_callI (rest := []) wv_X6_70 F hS (fun _ h => h) hS.2.1 (tX6_step l G A q hq h1) hP (x_recv (ci := 4) F hP rfl (by decide) (eC_1 G q _)) rfl hl.1 rfl ⟨Nat.le_of_ble_eq_true rfl, Nat.le_of_ble_eq_true rfl⟩ ⟨Nat.le_refl _, Nat.le_refl _⟩ (Nat.le_of_ble_eq_true rfl) dX6_perform_58 (fun H locs hP hS _ _ => ?_)
      refine lv_istore (lv' := [(4, .int r1), (0, .ref (q 1)), (3, .int x3)]) F.1 F.2.1 dX6_perform_61 hl (by decide) rfl (fun ls hl => ?_)
      refine lv_iload F.1 F.2.1 dX6_perform_63 (lv_at hl 0 rfl) ?_
      refine lv_ldc (v := 65536) F.1 F.2.1 F.2.2.2.1 (F.ws m_1_67) dX6_perform_65 ?_
      refine lv_icmp_eq (tgt := 76) F.1 F.2.1 dX6_perform_67 (by decide) (fun c5 => ?_) (fun c5 => ?_)
      · have hs := it_t c5 hs
        refine lv_iinc (v := x3 + 1) (lv' := [(3, .int (x3 + 1)), (4, .int r1), (0, .ref (q 1))]) F.1 F.2.1 dX6_perform_76 hl (k := 2) rfl rfl (by decide) rfl (fun ls hl => ?_)
        refine lv_goto (tgt := 8) F.1 F.2.1 dX6_perform_79 (by decide) ?_
        exact ih hs F hP hS (lv_sub hl [2, 0] rfl)
      have hs := it_f c5 hs
      refine lv_aload_n F.1 F.2.1 dX6_perform_70 rfl (lv_at hl 1 rfl) ?_
      refine lv_iload F.1 F.2.1 dX6_perform_71 (lv_at hl 0 rfl) ?_
      obtain ⟨M2, h2, hs⟩ := bn_some hs
      refine x_callV (rest := []) wv_X6_75 F hS (fun _ h => h) hS.2.1 (tX6_raise l G A q hq h2) hP (x_recv (ci := 4) F hP rfl (by decide) (eC_1 G q _)) rfl hl.1 rfl ⟨Nat.le_of_ble_eq_true rfl, Nat.le_of_ble_eq_true rfl⟩ ⟨Nat.le_refl _, Nat.le_refl _⟩ (Nat.le_of_ble_eq_true rfl) dX6_perform_73 (fun H locs hP hS _ _ => ?_)
      refine lv_iinc (v := x3 + 1) (lv' := [(3, .int (x3 + 1)), (4, .int r1), (0, .ref (q 1))]) F.1 F.2.1 dX6_perform_76 hl (k := 2) rfl rfl (by decide) rfl (fun ls hl => ?_)
      refine lv_goto (tgt := 8) F.1 F.2.1 dX6_perform_79 (by decide) ?_
      exact ih hs F hP hS (lv_sub hl [2, 0] rfl)
    have hs := it_f c4 hs
    refine lv_aload_n F.1 F.2.1 dX6_perform_48 rfl (lv_at hl 0 rfl) ?_
    refine lv_bipush (v := 10) F.1 F.2.1 dX6_perform_49 rfl ?_
    obtain ⟨M3, eM3, hs⟩ := lt_some hs
    refine hC_X6_54 F hq hP hS eM3 dX6_perform_51 (fun H locs hP hS => ?_)
    refine lv_goto (tgt := 76) F.1 F.2.1 dX6_perform_54 (by decide) ?_
    refine lv_iinc (v := x3 + 1) (lv' := [(3, .int (x3 + 1)), (0, .ref (q 1))]) F.1 F.2.1 dX6_perform_76 hl (k := 1) rfl rfl (by decide) rfl (fun ls hl => ?_)
    refine lv_goto (tgt := 8) F.1 F.2.1 dX6_perform_79 (by decide) ?_
    exact ih hs F hP hS (lv_sub hl [1, 0] rfl)
set_option maxHeartbeats 4000000 in
set_option maxRecDepth 100000 in
theorem tX6_perform (l : Launch) (G : zG) (A : Nat → Prop) (q : Nat → Nat) (hq : zQD A 58 q) {M M' : St} {r : Int32} {w1 : Nat} {x2 : Int32} (hw1 : w1 < 16) (hs : pX6_perform M w1 x2 = some (r, M')) : zKI l yX6_perform cX6_perform 5 (some .int) 7 158 G A (zP G.1 58 q (eC G q) M) [.ref (q 1), .ref (q (6 + w1)), .int x2] r (zP G.1 58 q (eC G q) M') := by
  refine zKI_of (by decide) (Nat.le_of_ble_eq_true rfl) (fun p e s m args below meth c H ls F hH hP hl => ?_)
  have F : zFx p s m args meth c cX6_perform RX6 5 (some .int) G A := F
  have hS : va_S A s.heap H [] := hH ▸ va_S.rf
  have hl : lv_has ls 5 [(0, .ref (q 1)), (1, .ref (q (6 + w1))), (2, .int x2)] := hl
  rw [pX6_perform] at hs
  refine lv_aload_n F.1 F.2.1 dX6_perform_0 rfl (lv_at hl 0 rfl) ?_
  refine lv_aload_n F.1 F.2.1 dX6_perform_1 rfl (lv_at hl 1 rfl) ?_
  refine lv_iload_n F.1 F.2.1 dX6_perform_2 rfl (lv_at hl 2 rfl) ?_
  obtain ⟨M1, h1, hs⟩ := bn_some hs
  refine x_callV (rest := []) wv_X6_46 F hS (fun _ h => h) hS.2.1 (tX6_begin l G A q hq hw1 h1) hP (x_recv (ci := 4) F hP rfl (by decide) (eC_1 G q _)) rfl hl.1 rfl ⟨Nat.le_of_ble_eq_true rfl, Nat.le_of_ble_eq_true rfl⟩ ⟨Nat.le_refl _, Nat.le_refl _⟩ (Nat.le_of_ble_eq_true rfl) dX6_perform_3 (fun H locs hP hS _ _ => ?_)
  refine lv_iconst (v := 0) F.1 F.2.1 dX6_perform_6 rfl ?_
  refine lv_istore_n (lv' := [(3, .int 0), (0, .ref (q 1)), (1, .ref (q (6 + w1))), (2, .int x2)]) F.1 F.2.1 dX6_perform_7 rfl hl (by decide) rfl (fun ls hl => ?_)
  exact tX6_perform_b8 LF hq hs F hP hS (lv_sub hl [1, 0] rfl)
