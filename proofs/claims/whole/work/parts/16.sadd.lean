def psX7_add (M : St) (x1 : Int32) (x2 : Int32) (x3 : Int32) : Option St :=
  lt (up2 M 0 4 ((M 0 4) + 1)) fun M1 =>
  gd (inb (M1 0 4) 41) <|
  lt (up2 M1 2 (ix (M1 0 4)) x1) fun M2 =>
  gd (inb (M2 0 4) 41) <|
  lt (up2 M2 3 (ix (M2 0 4)) x2) fun M3 =>
  gd (inb (M3 0 4) 41) <|
  lt (up2 M3 4 (ix (M3 0 4)) x3) fun M4 =>
  gd (inb (M4 0 4) 41) <|
  lt (up2 M4 5 (ix (M4 0 4)) (M4 0 8)) fun M5 =>
  bn (pJ7_fill_fda19 M5 6 240 (M5 0 8) ((M5 0 8) + x3) 0) fun M6 =>
  lt (up2 M6 0 8 ((M6 0 8) + x3)) fun M7 =>
  some M7
set_option maxHeartbeats 4000000 in
set_option maxRecDepth 100000 in
theorem tsX7_add (l : Launch) (G : zG) (A : Nat → Prop) (q : Nat → Nat) (hq : zQD A 9 q) {M M' : St} {x1 : Int32} {x2 : Int32} {x3 : Int32} (hs : psX7_add M x1 x2 x3 = some M') : zKV l yX7_add cX7_add 4 2 46 G A (zP G.1 9 q (eS G q) M) [.ref (q 0), .int x1, .int x2, .int x3] (zP G.1 9 q (eS G q) M') := by
  refine zKV_of (by decide) (Nat.le_of_ble_eq_true rfl) (fun p e s m args below meth c H ls F hH hP hl => ?_)
  have F : zFx p s m args meth c cX7_add RX7 4 none G A := F
  have hS : va_S A s.heap H [] := hH ▸ va_S.rf
  have hl : lv_has ls 4 [(0, .ref (q 0)), (1, .int x1), (2, .int x2), (3, .int x3)] := hl
  rw [psX7_add] at hs
  refine lv_aload_n F.1 F.2.1 dX7_add_0 rfl (lv_at hl 0 rfl) ?_
  refine lv_dup F.1 F.2.1 dX7_add_1 rfl ?_
  refine gS_X7_44 F hP dX7_add_2 ?_
  refine lv_iconst (v := 1) F.1 F.2.1 dX7_add_5 rfl ?_
  refine lv_iadd F.1 F.2.1 dX7_add_6 ?_
  obtain ⟨M1, eM1, hs⟩ := lt_some hs
  refine hS_X7_44 F hq hP hS eM1 dX7_add_7 (fun H locs hP hS => ?_)
  refine lv_aload_n F.1 F.2.1 dX7_add_10 rfl (lv_at hl 0 rfl) ?_
  refine gS_X7_18 F hP dX7_add_11 ?_
  refine lv_aload_n F.1 F.2.1 dX7_add_14 rfl (lv_at hl 0 rfl) ?_
  refine gS_X7_44 F hP dX7_add_15 ?_
  refine lv_iload_n F.1 F.2.1 dX7_add_18 rfl (lv_at hl 1 rfl) ?_
  obtain ⟨g1, hs⟩ := gd_some hs
  obtain ⟨M2, eM2, hs⟩ := lt_some hs
  refine x_iast F hq hP hS (arS_2 G q) g1 eM2 dX7_add_19 (fun H locs hP hS => ?_)
  refine lv_aload_n F.1 F.2.1 dX7_add_20 rfl (lv_at hl 0 rfl) ?_
  refine gS_X7_22 F hP dX7_add_21 ?_
  refine lv_aload_n F.1 F.2.1 dX7_add_24 rfl (lv_at hl 0 rfl) ?_
  refine gS_X7_44 F hP dX7_add_25 ?_
  refine lv_iload_n F.1 F.2.1 dX7_add_28 rfl (lv_at hl 2 rfl) ?_
  obtain ⟨g2, hs⟩ := gd_some hs
  obtain ⟨M3, eM3, hs⟩ := lt_some hs
  refine x_iast F hq hP hS (arS_3 G q) g2 eM3 dX7_add_29 (fun H locs hP hS => ?_)
  refine lv_aload_n F.1 F.2.1 dX7_add_30 rfl (lv_at hl 0 rfl) ?_
  refine gS_X7_25 F hP dX7_add_31 ?_
  refine lv_aload_n F.1 F.2.1 dX7_add_34 rfl (lv_at hl 0 rfl) ?_
  refine gS_X7_44 F hP dX7_add_35 ?_
  refine lv_iload_n F.1 F.2.1 dX7_add_38 rfl (lv_at hl 3 rfl) ?_
  obtain ⟨g3, hs⟩ := gd_some hs
  obtain ⟨M4, eM4, hs⟩ := lt_some hs
  refine x_iast F hq hP hS (arS_4 G q) g3 eM4 dX7_add_39 (fun H locs hP hS => ?_)
  refine lv_aload_n F.1 F.2.1 dX7_add_40 rfl (lv_at hl 0 rfl) ?_
  refine gS_X7_28 F hP dX7_add_41 ?_
  refine lv_aload_n F.1 F.2.1 dX7_add_44 rfl (lv_at hl 0 rfl) ?_
  refine gS_X7_44 F hP dX7_add_45 ?_
  refine lv_aload_n F.1 F.2.1 dX7_add_48 rfl (lv_at hl 0 rfl) ?_
  refine gS_X7_68 F hP dX7_add_49 ?_
  obtain ⟨g4, hs⟩ := gd_some hs
  obtain ⟨M5, eM5, hs⟩ := lt_some hs
  refine x_iast F hq hP hS (arS_5 G q) g4 eM5 dX7_add_52 (fun H locs hP hS => ?_)
  refine lv_aload_n F.1 F.2.1 dX7_add_53 rfl (lv_at hl 0 rfl) ?_
  refine gS_X7_31 F hP dX7_add_54 ?_
  refine lv_aload_n F.1 F.2.1 dX7_add_57 rfl (lv_at hl 0 rfl) ?_
  refine gS_X7_68 F hP dX7_add_58 ?_
  refine lv_aload_n F.1 F.2.1 dX7_add_61 rfl (lv_at hl 0 rfl) ?_
  refine gS_X7_68 F hP dX7_add_62 ?_
  refine lv_iload_n F.1 F.2.1 dX7_add_65 rfl (lv_at hl 3 rfl) ?_
  refine lv_iadd F.1 F.2.1 dX7_add_66 ?_
  refine lv_iconst (v := 0) F.1 F.2.1 dX7_add_67 rfl ?_
  obtain ⟨M6, h1, hs⟩ := bn_some hs
  refine x_callSV (rest := []) wv_X7_88 F hS (fun _ h => h) hS.2.1 (tJ7_fill_fda19 l G A q hq (arS_6 G q) h1) hP rfl hl.1 rfl ⟨Nat.le_of_ble_eq_true rfl, Nat.le_of_ble_eq_true rfl⟩ ⟨Nat.le_refl _, Nat.le_refl _⟩ (Nat.le_of_ble_eq_true rfl) dX7_add_68 (fun H locs hP hS _ _ => ?_)
  refine lv_aload_n F.1 F.2.1 dX7_add_71 rfl (lv_at hl 0 rfl) ?_
  refine lv_dup F.1 F.2.1 dX7_add_72 rfl ?_
  refine gS_X7_68 F hP dX7_add_73 ?_
  refine lv_iload_n F.1 F.2.1 dX7_add_76 rfl (lv_at hl 3 rfl) ?_
  refine lv_iadd F.1 F.2.1 dX7_add_77 ?_
  obtain ⟨M7, eM7, hs⟩ := lt_some hs
  refine hS_X7_68 F hq hP hS eM7 dX7_add_78 (fun H locs hP hS => ?_)
  cases hs
  exact x_vret F hP hS dX7_add_81
