/-! CONSTRUCTORS: the small ones, and the store -/
theorem k_0_4 : (Jvm.Cond.initialized "CardMachine$Power") ∈ BW := bw_t1 4 (by decide +kernel) (by decide +kernel)
theorem k_0_35 : (Jvm.Cond.methodLink "CardMachine$Store" (3 : Nat) ({ cls := "java/lang/Object", name := "<init>", desc := "()V" } : Jvm.MethodName)) ∈ BW := bw_t1 35 (by decide +kernel) (by decide +kernel)
theorem k_0_36 : (Jvm.Cond.classLink "CardMachine$Store" (9 : Nat) "CardMachine$Power") ∈ BW := bw_t1 36 (by decide +kernel) (by decide +kernel)
theorem k_0_37 : (Jvm.Cond.instantiable "CardMachine$Power" (2 : Nat)) ∈ BW := bw_t1 37 (by decide +kernel) (by decide +kernel)
theorem k_0_39 : (Jvm.Cond.instanceMethod ({ cls := "CardMachine$Power", name := "<init>", desc := "()V" } : Jvm.MethodName)) ∈ BW := bw_t1 39 (by decide +kernel) (by decide +kernel)
theorem k_0_40 : (Jvm.Cond.code ({ cls := "CardMachine$Power", name := "<init>", desc := "()V" } : Jvm.MethodName) prog_7_method_1_code (1 : Nat) (Option.none : Option Jvm.ClassFile.FieldType)) ∈ BW := bw_t1 40 (by decide +kernel) (by decide +kernel)
theorem k_0_41 : (Jvm.Cond.methodLink "CardMachine$Power" (3 : Nat) ({ cls := "java/lang/Object", name := "<init>", desc := "()V" } : Jvm.MethodName)) ∈ BW := bw_t1 41 (by decide +kernel) (by decide +kernel)
theorem k_0_42 : (Jvm.Cond.fieldLink "CardMachine$Power" (9 : Nat) "CardMachine$Power" "on" "Z") ∈ BW := bw_t1 42 (by decide +kernel) (by decide +kernel)
theorem k_0_45 : (Jvm.Cond.fieldLink "CardMachine$Power" (15 : Nat) "CardMachine$Power" "writesLeft" "I") ∈ BW := bw_t1 45 (by decide +kernel) (by decide +kernel)
theorem k_0_62 : (Jvm.Cond.fieldLink "CardMachine$Store" (12 : Nat) "CardMachine$Store" "power" "LCardMachine$Power;") ∈ BW := bw_t1 62 (by decide +kernel) (by decide +kernel)
theorem k_0_65 : (Jvm.Cond.fieldLink "CardMachine$Store" (18 : Nat) "CardMachine$Store" "owners" "[I") ∈ BW := bw_t1 65 (by decide +kernel) (by decide +kernel)
theorem k_0_68 : (Jvm.Cond.fieldLink "CardMachine$Store" (22 : Nat) "CardMachine$Store" "sorts" "[I") ∈ BW := bw_t1 68 (by decide +kernel) (by decide +kernel)
theorem k_0_70 : (Jvm.Cond.fieldLink "CardMachine$Store" (25 : Nat) "CardMachine$Store" "sizes" "[I") ∈ BW := bw_t1 70 (by decide +kernel) (by decide +kernel)
theorem k_0_77 : (Jvm.Cond.fieldLink "CardMachine$Store" (28 : Nat) "CardMachine$Store" "firstCells" "[I") ∈ BW := bw_t1 77 (by decide +kernel) (by decide +kernel)
theorem k_0_78 : (Jvm.Cond.fieldLink "CardMachine$Store" (31 : Nat) "CardMachine$Store" "cells" "[I") ∈ BW := bw_t1 78 (by decide +kernel) (by decide +kernel)
theorem k_0_80 : (Jvm.Cond.fieldLink "CardMachine$Store" (34 : Nat) "CardMachine$Store" "writtenCells" "[I") ∈ BW := bw_t1 80 (by decide +kernel) (by decide +kernel)
theorem k_0_81 : (Jvm.Cond.fieldLink "CardMachine$Store" (37 : Nat) "CardMachine$Store" "valuesBefore" "[I") ∈ BW := bw_t1 81 (by decide +kernel) (by decide +kernel)
theorem k_0_122 : (Jvm.Cond.methodLink "CardMachine$ByteRow" (3 : Nat) ({ cls := "java/lang/Object", name := "<init>", desc := "()V" } : Jvm.MethodName)) ∈ BW := bw_t1 122 (by decide +kernel) (by decide +kernel)
theorem k_0_123 : (Jvm.Cond.fieldLink "CardMachine$ByteRow" (9 : Nat) "CardMachine$ByteRow" "bytes" "[I") ∈ BW := bw_t1 123 (by decide +kernel) (by decide +kernel)
theorem k_0_140 : (Jvm.Cond.methodLink "CardMachine$Method" (1 : Nat) ({ cls := "java/lang/Object", name := "<init>", desc := "()V" } : Jvm.MethodName)) ∈ BW := bw_t1 140 (by decide +kernel) (by decide +kernel)
theorem k_0_159 : (Jvm.Cond.methodLink "CardMachine$Frame" (3 : Nat) ({ cls := "java/lang/Object", name := "<init>", desc := "()V" } : Jvm.MethodName)) ∈ BW := bw_t1 159 (by decide +kernel) (by decide +kernel)
theorem k_0_160 : (Jvm.Cond.fieldLink "CardMachine$Frame" (9 : Nat) "CardMachine$Frame" "locals" "[I") ∈ BW := bw_t1 160 (by decide +kernel) (by decide +kernel)
theorem k_0_162 : (Jvm.Cond.fieldLink "CardMachine$Frame" (15 : Nat) "CardMachine$Frame" "stack" "[I") ∈ BW := bw_t1 162 (by decide +kernel) (by decide +kernel)
set_option maxHeartbeats 4000000 in
set_option maxRecDepth 100000 in
theorem tI_X1 (l : Launch) (G : zG) (A : Nat → Prop) (N k : Nat) (qq : Nat → Nat) (f : Nat → va_E) {b : Nat} (hb : qq k = b) (hk : k < N) (he : f k = .inr (0, [.null, .int 0])) : zKN l yX1_init cX1_init 1 1 12 1 32 G A (CW G.1 A N qq f) [.ref b] (fun H => ∃ a, CW G.1 A (N + 1) (va_up qq N a) (va_up (va_up f N (.inl (G.2.1.1, 32, .inl (fun _ => 0)))) k (.inr (0, [.ref a, .int 0]))) H) := by
  refine zKN_of (by decide) (Nat.le_of_ble_eq_true rfl) (fun p e s m args below meth c H ls F hn X hA hH hP hl => ?_)
  have F : zFx p s m args meth c cX1_init RX1 1 none G A := F
  have hn : meth.name = "<init>" := hn
  have hS : va_S A s.heap H [] := hH ▸ va_S.rf
  have hl : lv_has ls 1 [(0, .ref b)] := hl
  have hkN : k ≠ N := by omega
  refine lv_aload_n F.1 F.2.1 dX1_init_0 rfl (lv_at hl 0 rfl) ?_
  refine y_objInit (own := RX1) k_0_122 F hl.1 (Nat.le_of_ble_eq_true rfl) (Nat.le_of_ble_eq_true rfl) dX1_init_1 ?_
  refine lv_aload_n F.1 F.2.1 dX1_init_4 rfl (lv_at hl 0 rfl) ?_
  refine lv_bipush (v := 32) F.1 F.2.1 dX1_init_5 rfl ?_
  refine y_newI (n := 32) rfl (by decide) F hA hP hS (Nat.le_of_ble_eq_true rfl) (Nat.le_of_ble_eq_true rfl) dX1_init_7 (fun a H hP hS => ?_)
  refine y_putF (k := k) (b := b) (own := RX1) (T := TX1) (j := 0) (ci := 0) (ty := (.array .int)) (by exact ((va_up_ne _ _ hkN).trans hb)) in_X1 tyX1_ok nmX1 rfl (by decide) k_0_123 rfl rfl rfl (by decide +kernel) hn F hP hS (by omega) (by exact ((va_up_ne _ _ hkN).trans he)) (by exact (show 0 < 2 by decide)) rfl rfl dX1_init_9 (fun H locs hP hS => ?_)
  exact y_vret (P1 := (fun H => ∃ a, CW G.1 A (N + 1) (va_up qq N a) (va_up (va_up f N (.inl (G.2.1.1, 32, .inl (fun _ => 0)))) k (.inr (0, [.ref a, .int 0]))) H)) F ⟨a, hP⟩ hS dX1_init_12
set_option maxHeartbeats 4000000 in
set_option maxRecDepth 100000 in
theorem tI_X2 (l : Launch) (G : zG) (A : Nat → Prop) (N k : Nat) (qq : Nat → Nat) (f : Nat → va_E) {b : Nat} (hb : qq k = b) (hk : k < N) (he : f k = .inr (1, [.null, .null, .int 0, .int 0, .int 0, .int 0])) : zKN l yX2_init cX2_init 1 1 12 2 24 G A (CW G.1 A N qq f) [.ref b] (fun H => ∃ a a2, CW G.1 A (N + 2) (va_up (va_up qq N a) (N + 1) a2) (va_up (va_up (va_up (va_up f N (.inl (G.2.1.1, 8, .inl (fun _ => 0)))) k (.inr (1, [.ref a, .null, .int 0, .int 0, .int 0, .int 0]))) (N + 1) (.inl (G.2.1.1, 16, .inl (fun _ => 0)))) k (.inr (1, [.ref a, .ref a2, .int 0, .int 0, .int 0, .int 0]))) H) := by
  refine zKN_of (by decide) (Nat.le_of_ble_eq_true rfl) (fun p e s m args below meth c H ls F hn X hA hH hP hl => ?_)
  have F : zFx p s m args meth c cX2_init RX2 1 none G A := F
  have hn : meth.name = "<init>" := hn
  have hS : va_S A s.heap H [] := hH ▸ va_S.rf
  have hl : lv_has ls 1 [(0, .ref b)] := hl
  have hkN : k ≠ N := by omega
  have hkN2 : k ≠ N + 1 := by omega
  refine lv_aload_n F.1 F.2.1 dX2_init_0 rfl (lv_at hl 0 rfl) ?_
  refine y_objInit (own := RX2) k_0_159 F hl.1 (Nat.le_of_ble_eq_true rfl) (Nat.le_of_ble_eq_true rfl) dX2_init_1 ?_
  refine lv_aload_n F.1 F.2.1 dX2_init_4 rfl (lv_at hl 0 rfl) ?_
  refine lv_bipush (v := 8) F.1 F.2.1 dX2_init_5 rfl ?_
  refine y_newI (n := 8) rfl (by decide) F hA hP hS (Nat.le_of_ble_eq_true rfl) (Nat.le_of_ble_eq_true rfl) dX2_init_7 (fun a H hP hS => ?_)
  refine y_putF (k := k) (b := b) (own := RX2) (T := TX2) (j := 0) (ci := 1) (ty := (.array .int)) (by exact ((va_up_ne _ _ hkN).trans hb)) in_X2 tyX2_ok nmX2 rfl (by decide) k_0_160 rfl rfl rfl (by decide +kernel) hn F hP hS (by omega) (by exact ((va_up_ne _ _ hkN).trans he)) (by exact (show 0 < 6 by decide)) rfl rfl dX2_init_9 (fun H locs hP hS => ?_)
  refine lv_aload_n F.1 F.2.1 dX2_init_12 rfl (lv_at hl 0 rfl) ?_
  refine lv_bipush (v := 16) F.1 F.2.1 dX2_init_13 rfl ?_
  refine y_newI (n := 16) rfl (by decide) F hA hP hS (Nat.le_of_ble_eq_true rfl) (Nat.le_of_ble_eq_true rfl) dX2_init_15 (fun a2 H hP hS => ?_)
  refine y_putF (k := k) (b := b) (own := RX2) (T := TX2) (j := 1) (ci := 1) (ty := (.array .int)) (by exact ((va_up_ne _ _ hkN2).trans ((va_up_ne _ _ hkN).trans hb))) in_X2 tyX2_ok nmX2 rfl (by decide) k_0_162 rfl rfl rfl (by decide +kernel) hn F hP hS (by omega) (by exact ((va_up_ne _ _ hkN2).trans (va_up_self _ _ _))) (by exact (show 1 < 6 by decide)) rfl rfl dX2_init_17 (fun H locs hP hS => ?_)
  exact y_vret (P1 := (fun H => ∃ a a2, CW G.1 A (N + 2) (va_up (va_up qq N a) (N + 1) a2) (va_up (va_up (va_up (va_up f N (.inl (G.2.1.1, 8, .inl (fun _ => 0)))) k (.inr (1, [.ref a, .null, .int 0, .int 0, .int 0, .int 0]))) (N + 1) (.inl (G.2.1.1, 16, .inl (fun _ => 0)))) k (.inr (1, [.ref a, .ref a2, .int 0, .int 0, .int 0, .int 0]))) H)) F ⟨a, a2, hP⟩ hS dX2_init_20
set_option maxHeartbeats 4000000 in
set_option maxRecDepth 100000 in
theorem tI_X3 (l : Launch) (G : zG) (A : Nat → Prop) {P0 : Heap → Prop} {b : Nat} : zKN l yX3_init cX3_init 1 1 12 0 0 G A P0 [.ref b] (fun H => P0 H) := by
  refine zKN_of (by decide) (Nat.le_of_ble_eq_true rfl) (fun p e s m args below meth c H ls F hn X hA hH hP hl => ?_)
  have F : zFx p s m args meth c cX3_init RX3 1 none G A := F
  have hn : meth.name = "<init>" := hn
  have hS : va_S A s.heap H [] := hH ▸ va_S.rf
  have hl : lv_has ls 1 [(0, .ref b)] := hl
  refine lv_aload_n F.1 F.2.1 dX3_init_0 rfl (lv_at hl 0 rfl) ?_
  refine y_objInit (own := RX3) k_0_140 F hl.1 (Nat.le_of_ble_eq_true rfl) (Nat.le_of_ble_eq_true rfl) dX3_init_1 ?_
  exact y_vret (P1 := (fun H => P0 H)) F hP hS dX3_init_4
set_option maxHeartbeats 4000000 in
set_option maxRecDepth 100000 in
theorem tI_X5 (l : Launch) (G : zG) (A : Nat → Prop) (N k : Nat) (qq : Nat → Nat) (f : Nat → va_E) {b : Nat} (hb : qq k = b) (hk : k < N) (he : f k = .inr (3, [.int 0, .int 0])) : zKN l yX5_init cX5_init 1 1 12 0 0 G A (CW G.1 A N qq f) [.ref b] (fun H => CW G.1 A N qq (va_up (va_up f k (.inr (3, [.int 1, .int 0]))) k (.inr (3, [.int 1, .int (-1)]))) H) := by
  refine zKN_of (by decide) (Nat.le_of_ble_eq_true rfl) (fun p e s m args below meth c H ls F hn X hA hH hP hl => ?_)
  have F : zFx p s m args meth c cX5_init RX5 1 none G A := F
  have hn : meth.name = "<init>" := hn
  have hS : va_S A s.heap H [] := hH ▸ va_S.rf
  have hl : lv_has ls 1 [(0, .ref b)] := hl
  refine lv_aload_n F.1 F.2.1 dX5_init_0 rfl (lv_at hl 0 rfl) ?_
  refine y_objInit (own := RX5) k_0_41 F hl.1 (Nat.le_of_ble_eq_true rfl) (Nat.le_of_ble_eq_true rfl) dX5_init_1 ?_
  refine lv_aload_n F.1 F.2.1 dX5_init_4 rfl (lv_at hl 0 rfl) ?_
  refine lv_iconst (v := 1) F.1 F.2.1 dX5_init_5 rfl ?_
  refine y_put (k := k) (b := b) (own := RX5) (T := TX5) (j := 0) (ci := 3) (ty := .boolean) (by exact hb) in_X5 tyX5_ok nmX5 rfl (by decide) k_0_42 rfl rfl (by decide +kernel) F hP hS (by omega) (by exact he) (by exact (show 0 < 2 by decide)) rfl rfl dX5_init_6 (fun H locs hP hS => ?_)
  refine lv_aload_n F.1 F.2.1 dX5_init_9 rfl (lv_at hl 0 rfl) ?_
  refine lv_iconst (v := (-1)) F.1 F.2.1 dX5_init_10 rfl ?_
  refine y_put (k := k) (b := b) (own := RX5) (T := TX5) (j := 1) (ci := 3) (ty := .int) (by exact hb) in_X5 tyX5_ok nmX5 rfl (by decide) k_0_45 rfl rfl (by decide +kernel) F hP hS (by omega) (by exact (va_up_self _ _ _)) (by exact (show 1 < 2 by decide)) rfl rfl dX5_init_11 (fun H locs hP hS => ?_)
  exact y_vret (P1 := (fun H => CW G.1 A N qq (va_up (va_up f k (.inr (3, [.int 1, .int 0]))) k (.inr (3, [.int 1, .int (-1)]))) H)) F hP hS dX5_init_14
-- the store alone, while it is made
def aS (S : St) (n c : Nat) (o x s : Int32) : St := up2 (up2 (up2 (up2 (up2 S 0 4 (nI (n + 1))) 2 (n + 1) o) 3 (n + 1) x) 4 (n + 1) s) 5 (n + 1) (nI c)
theorem sadd {S : St} {n c s : Nat} (hn : S 0 4 = nI n) (hc : S 0 8 = nI c) (h40 : n < 40) (h240 : c + s ≤ 240) (o x : Int32) : psX7_add S o x (nI s) = some (up2 (zf (aS S n c o x (nI s)) 6 c s) 0 8 (nI (c + s))) := by
  have g : inb (nI (n + 1)) 41 = true := inb_nI (by omega) (by decide)
  have i : ix (nI (n + 1)) = n + 1 := ix_nI (by omega)
  have hL : s < LF := by unfold LF; omega
  unfold psX7_add pJ7_fill_fda19
  rw [lt_s', hn, nI_1]
  have q : ∀ (a j : Nat) (v : Int32) (D : St), (a ≠ 0 ∨ j ≠ 4) → D 0 4 = nI (n + 1) → (up2 D a j v) 0 4 = nI (n + 1) := fun a j v D h e => by rw [up2_cell _ _ _ _ _ _ (by omega)]; exact e
  have q8 : ∀ (a j : Nat) (v : Int32) (D : St), (a ≠ 0 ∨ j ≠ 8) → D 0 8 = nI c → (up2 D a j v) 0 8 = nI c := fun a j v D h e => by rw [up2_cell _ _ _ _ _ _ (by omega)]; exact e
  have e0 : (up2 S 0 4 (nI (n + 1))) 0 4 = nI (n + 1) := up2_at _ _ _ _
  have f0 : (up2 S 0 4 (nI (n + 1))) 0 8 = nI c := q8 _ _ _ _ (by omega) hc
  rw [e0, gd_t g, i, lt_s']
  have e1 := q 2 (n + 1) o _ (by omega) e0
  have f1 := q8 2 (n + 1) o _ (by omega) f0
  rw [e1, gd_t g, i, lt_s']
  have e2 := q 3 (n + 1) x _ (by omega) e1
  have f2 := q8 3 (n + 1) x _ (by omega) f1
  rw [e2, gd_t g, i, lt_s']
  have e3 := q 4 (n + 1) (nI s) _ (by omega) e2
  have f3 := q8 4 (n + 1) (nI s) _ (by omega) f2
  rw [e3, gd_t g, i, lt_s', f3]
  have f4 := q8 5 (n + 1) (nI c) _ (by omega) f3
  rw [f4, nI_add, rngok (by omega) h240 (by decide), bn_s, cfill 6 240 s (by decide) LF c _ hL h240, bn_s, lt_s', zf_row _ _ _ _ _ (by decide), f4, nI_add]
  rfl
def S0 : St := fun a i => if a = 1 then (if i = 0 then 1 else if i = 1 then -1 else 0) else 0
def SS : Nat → St
  | 0 => S0
  | i + 1 => up2 (zf (aS (SS i) i (8 * i) (nI i) 0 (nI 8)) 6 (8 * i) 8) 0 8 (nI (8 * i + 8))
theorem SS_n (i : Nat) : SS i 0 4 = nI i ∧ SS i 0 8 = nI (8 * i) := by
  cases i with
  | zero => exact ⟨rfl, rfl⟩
  | succ i =>
    rw [SS]
    refine ⟨?_, ?_⟩
    · rw [up2_cell _ _ _ _ _ _ (Or.inr (by decide)), zf_row _ _ _ _ _ (by decide)]; rfl
    · rw [up2_at]; rfl
theorem SS_s {i : Nat} (h : i < 4) : psX7_add (SS i) (nI i) 0 (nI 8) = some (SS (i + 1)) :=
  sadd (SS_n i).1 (SS_n i).2 (by omega) (by omega) _ _
theorem zQD_of {A : Nat → Prop} {N : Nat} {qq : Nat → Nat} {f : Nat → va_E} (h : va_D A (zwl N qq f)) : zQD A N qq :=
  ⟨fun i j hi hj e => h.1 i j _ _ (zwl_at hi rfl) (zwl_at hj rfl) e, fun i hi => h.2 i _ (zwl_at hi rfl)⟩
theorem va_Pz {D : va_G} {N : Nat} {qq : Nat → Nat} {f : Nat → va_E} {H : Heap} (h : ∀ k, k < N → va_at D vwCl (qq k, f k) H) : va_P D vwCl (zwl N qq f) H := fun k x hx => by
  obtain ⟨hk, e⟩ := zwl_inv hx
  rw [e]
  exact h k hk
theorem va_Pk {D : va_G} {N : Nat} {qq : Nat → Nat} {f : Nat → va_E} {H : Heap} (h : va_P D vwCl (zwl N qq f) H) {k : Nat} (hk : k < N) : va_at D vwCl (qq k, f k) H := h k _ (zwl_at hk rfl)
set_option maxHeartbeats 4000000 in
set_option maxRecDepth 100000 in
theorem tI_X7 (l : Launch) (G : zG) (A : Nat → Prop) (qq : Nat → Nat) (f : Nat → va_E) {b : Nat} (hb : qq 4 = b) (he : f 4 = .inr (5, [.null, .null, .null, .null, .int 0, .int 0, .null, .null, .int 0, .null, .null, .int 0, .int 0, .int 0, .int 0])) : zKN l yX7_init cX7_init 2 3 69 8 446 G A (CW G.1 A 5 qq f) [.ref b] (fun H => ∃ qn : Nat → Nat, (∀ k, k < 5 → qn k = qq k) ∧ CW G.1 A 13 qn (fun k => if k < 4 then f k else eS G (fun j => qn (4 + j)) (k - 4) (SS 4 (k - 4))) H) := by
  refine zKN_of (by decide) (Nat.le_of_ble_eq_true rfl) (fun p e s m args below meth c H ls F hn X hA hH hP hl => ?_)
  have F : zFx p s m args meth c cX7_init RX7 2 none G A := F
  have hn : meth.name = "<init>" := hn
  have hS : va_S A s.heap H [] := hH ▸ va_S.rf
  have hl : lv_has ls 2 [(0, .ref b)] := hl
  refine lv_aload_n F.1 F.2.1 dX7_init_0 rfl (lv_at hl 0 rfl) ?_
  refine y_objInit (own := RX7) k_0_35 F hl.1 (Nat.le_of_ble_eq_true rfl) (Nat.le_of_ble_eq_true rfl) dX7_init_1 ?_
  refine lv_aload_n F.1 F.2.1 dX7_init_4 rfl (lv_at hl 0 rfl) ?_
  refine y_newO (own := RX7) (C := RX5) (T := TX5) (ci := 3) (nf := 2) (fs := [.int 0, .int 0]) in_X5 tyX5_ok rfl k_0_36 k_0_37 k_0_4 (fun j hj => by rcases (show j = 0 ∨ j = 1 by omega) with rfl | rfl <;> rfl) F hA hP hS (Nat.le_of_ble_eq_true rfl) (Nat.le_of_ble_eq_true rfl) dX7_init_5 (fun a5 H hP hS => ?_)
  refine lv_dup F.1 F.2.1 dX7_init_8 rfl ?_
  refine y_ctorN (own := RX7) (y := yX5_init) (A1 := A) X.1 k_0_39 k_0_4 k_0_40 rfl ⟨by decide, by decide, by decide +kernel⟩ F X hS (fun _ h => h) (fun a ha => hA a (Nat.le_trans hS.1 ha)) (tI_X5 l G A 6 5 _ _ (b := a5) rfl (by decide) rfl) hP hl.1 ⟨(Nat.le_of_ble_eq_true rfl), (Nat.le_of_ble_eq_true rfl)⟩ ⟨(Nat.le_of_ble_eq_true rfl), (Nat.le_of_ble_eq_true rfl)⟩ (Nat.le_of_ble_eq_true rfl) dX7_init_9 (fun H locs hP hS _ _ => ?_)
  have hP : CW G.1 A 6 _ _ H := hP
  refine y_putF (k := 4) (b := b) (own := RX7) (T := TX7) (j := 0) (ci := 5) (ty := (.object "CardMachine$Power")) (by exact hb) in_X7 tyX7_ok nmX7 rfl (by decide) k_0_62 rfl rfl rfl (by decide +kernel) hn F hP hS (by omega) (by exact he) (by exact (show 0 < 15 by decide)) rfl rfl dX7_init_12 (fun H locs hP hS => ?_)
  refine lv_aload_n F.1 F.2.1 dX7_init_15 rfl (lv_at hl 0 rfl) ?_
  refine lv_bipush (v := 41) F.1 F.2.1 dX7_init_16 rfl ?_
  refine y_newI (n := 41) rfl (by decide) F hA hP hS (Nat.le_of_ble_eq_true rfl) (Nat.le_of_ble_eq_true rfl) dX7_init_18 (fun a6 H hP hS => ?_)
  refine y_putF (k := 4) (b := b) (own := RX7) (T := TX7) (j := 1) (ci := 5) (ty := (.array .int)) (by exact hb) in_X7 tyX7_ok nmX7 rfl (by decide) k_0_65 rfl rfl rfl (by decide +kernel) hn F hP hS (by omega) (by exact rfl) (by exact (show 1 < 15 by decide)) rfl rfl dX7_init_20 (fun H locs hP hS => ?_)
  refine lv_aload_n F.1 F.2.1 dX7_init_23 rfl (lv_at hl 0 rfl) ?_
  refine lv_bipush (v := 41) F.1 F.2.1 dX7_init_24 rfl ?_
  refine y_newI (n := 41) rfl (by decide) F hA hP hS (Nat.le_of_ble_eq_true rfl) (Nat.le_of_ble_eq_true rfl) dX7_init_26 (fun a7 H hP hS => ?_)
  refine y_putF (k := 4) (b := b) (own := RX7) (T := TX7) (j := 2) (ci := 5) (ty := (.array .int)) (by exact hb) in_X7 tyX7_ok nmX7 rfl (by decide) k_0_68 rfl rfl rfl (by decide +kernel) hn F hP hS (by omega) (by exact rfl) (by exact (show 2 < 15 by decide)) rfl rfl dX7_init_28 (fun H locs hP hS => ?_)
  refine lv_aload_n F.1 F.2.1 dX7_init_31 rfl (lv_at hl 0 rfl) ?_
  refine lv_bipush (v := 41) F.1 F.2.1 dX7_init_32 rfl ?_
  refine y_newI (n := 41) rfl (by decide) F hA hP hS (Nat.le_of_ble_eq_true rfl) (Nat.le_of_ble_eq_true rfl) dX7_init_34 (fun a8 H hP hS => ?_)
  refine y_putF (k := 4) (b := b) (own := RX7) (T := TX7) (j := 3) (ci := 5) (ty := (.array .int)) (by exact hb) in_X7 tyX7_ok nmX7 rfl (by decide) k_0_70 rfl rfl rfl (by decide +kernel) hn F hP hS (by omega) (by exact rfl) (by exact (show 3 < 15 by decide)) rfl rfl dX7_init_36 (fun H locs hP hS => ?_)
  refine lv_aload_n F.1 F.2.1 dX7_init_39 rfl (lv_at hl 0 rfl) ?_
  refine lv_bipush (v := 41) F.1 F.2.1 dX7_init_40 rfl ?_
  refine y_newI (n := 41) rfl (by decide) F hA hP hS (Nat.le_of_ble_eq_true rfl) (Nat.le_of_ble_eq_true rfl) dX7_init_42 (fun a9 H hP hS => ?_)
  refine y_putF (k := 4) (b := b) (own := RX7) (T := TX7) (j := 6) (ci := 5) (ty := (.array .int)) (by exact hb) in_X7 tyX7_ok nmX7 rfl (by decide) k_0_77 rfl rfl rfl (by decide +kernel) hn F hP hS (by omega) (by exact rfl) (by exact (show 6 < 15 by decide)) rfl rfl dX7_init_44 (fun H locs hP hS => ?_)
  refine lv_aload_n F.1 F.2.1 dX7_init_47 rfl (lv_at hl 0 rfl) ?_
  refine lv_sipush (v := 240) F.1 F.2.1 dX7_init_48 rfl ?_
  refine y_newI (n := 240) rfl (by decide) F hA hP hS (Nat.le_of_ble_eq_true rfl) (Nat.le_of_ble_eq_true rfl) dX7_init_51 (fun a10 H hP hS => ?_)
  refine y_putF (k := 4) (b := b) (own := RX7) (T := TX7) (j := 7) (ci := 5) (ty := (.array .int)) (by exact hb) in_X7 tyX7_ok nmX7 rfl (by decide) k_0_78 rfl rfl rfl (by decide +kernel) hn F hP hS (by omega) (by exact rfl) (by exact (show 7 < 15 by decide)) rfl rfl dX7_init_53 (fun H locs hP hS => ?_)
  refine lv_aload_n F.1 F.2.1 dX7_init_56 rfl (lv_at hl 0 rfl) ?_
  refine lv_bipush (v := 20) F.1 F.2.1 dX7_init_57 rfl ?_
  refine y_newI (n := 20) rfl (by decide) F hA hP hS (Nat.le_of_ble_eq_true rfl) (Nat.le_of_ble_eq_true rfl) dX7_init_59 (fun a11 H hP hS => ?_)
  refine y_putF (k := 4) (b := b) (own := RX7) (T := TX7) (j := 9) (ci := 5) (ty := (.array .int)) (by exact hb) in_X7 tyX7_ok nmX7 rfl (by decide) k_0_80 rfl rfl rfl (by decide +kernel) hn F hP hS (by omega) (by exact rfl) (by exact (show 9 < 15 by decide)) rfl rfl dX7_init_61 (fun H locs hP hS => ?_)
  refine lv_aload_n F.1 F.2.1 dX7_init_64 rfl (lv_at hl 0 rfl) ?_
  refine lv_bipush (v := 20) F.1 F.2.1 dX7_init_65 rfl ?_
  refine y_newI (n := 20) rfl (by decide) F hA hP hS (Nat.le_of_ble_eq_true rfl) (Nat.le_of_ble_eq_true rfl) dX7_init_67 (fun a12 H hP hS => ?_)
  refine y_putF (k := 4) (b := b) (own := RX7) (T := TX7) (j := 10) (ci := 5) (ty := (.array .int)) (by exact hb) in_X7 tyX7_ok nmX7 rfl (by decide) k_0_81 rfl rfl rfl (by decide +kernel) hn F hP hS (by omega) (by exact rfl) (by exact (show 10 < 15 by decide)) rfl rfl dX7_init_69 (fun H locs hP hS => ?_)
  have hq13 : zQD A 13 (va_up (va_up (va_up (va_up (va_up (va_up (va_up (va_up qq 5 a5) 6 a6) 7 a7) 8 a8) 9 a9) 10 a10) 11 a11) 12 a12) := zQD_of hP.2
  have hZ : zP G.1 9 (fun j => (va_up (va_up (va_up (va_up (va_up (va_up (va_up (va_up qq 5 a5) 6 a6) 7 a7) 8 a8) 9 a9) 10 a10) 11 a11) 12 a12) (4 + j)) (eS G (fun j => (va_up (va_up (va_up (va_up (va_up (va_up (va_up (va_up qq 5 a5) 6 a6) 7 a7) 8 a8) 9 a9) 10 a10) 11 a11) 12 a12) (4 + j))) (SS 0) H := va_Pz (fun j hj => by
    have := va_Pk hP.1 (k := 4 + j) (by omega)
    match j, hj with
    | 0, _ => exact this
    | 1, _ => exact this
    | 2, _ => exact this
    | 3, _ => exact this
    | 4, _ => exact this
    | 5, _ => exact this
    | 6, _ => exact this
    | 7, _ => exact this
    | 8, _ => exact this
    | n + 9, h => exact absurd h (by omega))
  have hR4 : va_P G.1 vwCl (zwl 4 (va_up (va_up (va_up (va_up (va_up (va_up (va_up (va_up qq 5 a5) 6 a6) 7 a7) 8 a8) 9 a9) 10 a10) 11 a11) 12 a12) f) H := va_Pz (fun j hj => by
    have := va_Pk hP.1 (k := j) (by omega)
    match j, hj with
    | 0, _ => exact this
    | 1, _ => exact this
    | 2, _ => exact this
    | 3, _ => exact this
    | n + 4, h => exact absurd h (by omega))
  have hqs : ∀ k, k < 5 → (va_up (va_up (va_up (va_up (va_up (va_up (va_up (va_up qq 5 a5) 6 a6) 7 a7) 8 a8) 9 a9) 10 a10) 11 a11) 12 a12) k = qq k := fun k hk => by
    match k, hk with
    | 0, _ => rfl
    | 1, _ => rfl
    | 2, _ => rfl
    | 3, _ => rfl
    | 4, _ => rfl
    | n + 5, h => exact absurd h (by omega)
  have hbQ : (va_up (va_up (va_up (va_up (va_up (va_up (va_up (va_up qq 5 a5) 6 a6) 7 a7) 8 a8) 9 a9) 10 a10) 11 a11) 12 a12) (4 + 0) = b := hb
  generalize va_up (va_up (va_up (va_up (va_up (va_up (va_up (va_up qq 5 a5) 6 a6) 7 a7) 8 a8) 9 a9) 10 a10) 11 a11) 12 a12 = Qn at hq13 hZ hR4 hqs hbQ
  clear hP
  subst hbQ
  have hqS : zQD (fun a => ∃ j, j < 9 ∧ a = Qn (4 + j)) 9 (fun j => Qn (4 + j)) := ⟨fun i j hi hj e => by have := hq13.1 (4 + i) (4 + j) (by omega) (by omega) e; omega, fun i hi => ⟨i, hi, rfl⟩⟩
  have hAA : ∀ a, (∃ j, j < 9 ∧ a = Qn (4 + j)) → A a := fun a ⟨j, hj, ej⟩ => by rw [ej]; exact hq13.2 _ (by omega)
  have hN4 : ∀ k, k < 4 → ¬ ∃ j, j < 9 ∧ Qn k = Qn (4 + j) := fun k hk ⟨j, hj, ej⟩ => by have := hq13.1 k (4 + j) (by omega) (by omega) ej; omega
  refine lv_iconst (v := 0) F.1 F.2.1 dX7_init_72 rfl ?_
  refine lv_istore_n (lv' := [(1, .int 0), (0, .ref (Qn (4 + 0)))]) F.1 F.2.1 dX7_init_73 rfl hl (by decide) rfl (fun ls hl => ?_)
  refine lv_iload_n F.1 F.2.1 dX7_init_74 rfl (lv_at hl 0 rfl) ?_
  refine lv_iconst (v := 4) F.1 F.2.1 dX7_init_75 rfl ?_
  refine lv_icmp_ge (tgt := 93) F.1 F.2.1 dX7_init_76 (by decide) (fun c => absurd c (by decide)) (fun _ => ?_)
  refine lv_aload_n F.1 F.2.1 dX7_init_79 rfl (lv_at hl 1 rfl) ?_
  refine lv_iload_n F.1 F.2.1 dX7_init_80 rfl (lv_at hl 0 rfl) ?_
  refine lv_iconst (v := 0) F.1 F.2.1 dX7_init_81 rfl ?_
  refine lv_bipush (v := 8) F.1 F.2.1 dX7_init_82 rfl ?_
  refine y_callV (b := Qn (4 + 0)) (as := [.int 0, .int 0, .int 8]) (rest := []) wv_X7_40 F hS hAA (tsX7_add l G _ (fun j => Qn (4 + j)) hqS (SS_s (i := 0) (by decide))) hZ (x_recv (C := RX7) (T := TX7) (n := 15) (ci := 5) (k := 0) F hZ rfl (by decide) (eS_0 G _ _)) rfl hl.1 rfl ⟨(Nat.le_of_ble_eq_true rfl), (Nat.le_of_ble_eq_true rfl)⟩ ⟨(Nat.le_of_ble_eq_true rfl), (Nat.le_of_ble_eq_true rfl)⟩ (Nat.le_of_ble_eq_true rfl) dX7_init_84 (fun H1 locs hZ hS hk _ => ?_)
  have hR4 : va_P G.1 vwCl (zwl 4 Qn f) H1 := hR4.kept (fun k x hx => by
    obtain ⟨hk4, ex⟩ := zwl_inv hx
    rw [ex]
    exact hk _ (hR4 k x hx |> fun q => by have := q.lt; rw [ex] at this; exact this) (hN4 k hk4))
  clear hk
  generalize H1 = H at hZ hS hR4 ⊢
  refine lv_iinc (v := 1) (lv' := [(1, .int 1), (0, .ref (Qn (4 + 0)))]) F.1 F.2.1 dX7_init_87 hl (k := 0) rfl rfl (by decide) rfl (fun ls hl => ?_)
  refine lv_goto (tgt := 74) F.1 F.2.1 dX7_init_90 (by decide) ?_
  refine lv_iload_n F.1 F.2.1 dX7_init_74 rfl (lv_at hl 0 rfl) ?_
  refine lv_iconst (v := 4) F.1 F.2.1 dX7_init_75 rfl ?_
  refine lv_icmp_ge (tgt := 93) F.1 F.2.1 dX7_init_76 (by decide) (fun c => absurd c (by decide)) (fun _ => ?_)
  refine lv_aload_n F.1 F.2.1 dX7_init_79 rfl (lv_at hl 1 rfl) ?_
  refine lv_iload_n F.1 F.2.1 dX7_init_80 rfl (lv_at hl 0 rfl) ?_
  refine lv_iconst (v := 0) F.1 F.2.1 dX7_init_81 rfl ?_
  refine lv_bipush (v := 8) F.1 F.2.1 dX7_init_82 rfl ?_
  refine y_callV (b := Qn (4 + 0)) (as := [.int 1, .int 0, .int 8]) (rest := []) wv_X7_40 F hS hAA (tsX7_add l G _ (fun j => Qn (4 + j)) hqS (SS_s (i := 1) (by decide))) hZ (x_recv (C := RX7) (T := TX7) (n := 15) (ci := 5) (k := 0) F hZ rfl (by decide) (eS_0 G _ _)) rfl hl.1 rfl ⟨(Nat.le_of_ble_eq_true rfl), (Nat.le_of_ble_eq_true rfl)⟩ ⟨(Nat.le_of_ble_eq_true rfl), (Nat.le_of_ble_eq_true rfl)⟩ (Nat.le_of_ble_eq_true rfl) dX7_init_84 (fun H1 locs hZ hS hk _ => ?_)
  have hR4 : va_P G.1 vwCl (zwl 4 Qn f) H1 := hR4.kept (fun k x hx => by
    obtain ⟨hk4, ex⟩ := zwl_inv hx
    rw [ex]
    exact hk _ (hR4 k x hx |> fun q => by have := q.lt; rw [ex] at this; exact this) (hN4 k hk4))
  clear hk
  generalize H1 = H at hZ hS hR4 ⊢
  refine lv_iinc (v := 2) (lv' := [(1, .int 2), (0, .ref (Qn (4 + 0)))]) F.1 F.2.1 dX7_init_87 hl (k := 0) rfl rfl (by decide) rfl (fun ls hl => ?_)
  refine lv_goto (tgt := 74) F.1 F.2.1 dX7_init_90 (by decide) ?_
  refine lv_iload_n F.1 F.2.1 dX7_init_74 rfl (lv_at hl 0 rfl) ?_
  refine lv_iconst (v := 4) F.1 F.2.1 dX7_init_75 rfl ?_
  refine lv_icmp_ge (tgt := 93) F.1 F.2.1 dX7_init_76 (by decide) (fun c => absurd c (by decide)) (fun _ => ?_)
  refine lv_aload_n F.1 F.2.1 dX7_init_79 rfl (lv_at hl 1 rfl) ?_
  refine lv_iload_n F.1 F.2.1 dX7_init_80 rfl (lv_at hl 0 rfl) ?_
  refine lv_iconst (v := 0) F.1 F.2.1 dX7_init_81 rfl ?_
  refine lv_bipush (v := 8) F.1 F.2.1 dX7_init_82 rfl ?_
  refine y_callV (b := Qn (4 + 0)) (as := [.int 2, .int 0, .int 8]) (rest := []) wv_X7_40 F hS hAA (tsX7_add l G _ (fun j => Qn (4 + j)) hqS (SS_s (i := 2) (by decide))) hZ (x_recv (C := RX7) (T := TX7) (n := 15) (ci := 5) (k := 0) F hZ rfl (by decide) (eS_0 G _ _)) rfl hl.1 rfl ⟨(Nat.le_of_ble_eq_true rfl), (Nat.le_of_ble_eq_true rfl)⟩ ⟨(Nat.le_of_ble_eq_true rfl), (Nat.le_of_ble_eq_true rfl)⟩ (Nat.le_of_ble_eq_true rfl) dX7_init_84 (fun H1 locs hZ hS hk _ => ?_)
  have hR4 : va_P G.1 vwCl (zwl 4 Qn f) H1 := hR4.kept (fun k x hx => by
    obtain ⟨hk4, ex⟩ := zwl_inv hx
    rw [ex]
    exact hk _ (hR4 k x hx |> fun q => by have := q.lt; rw [ex] at this; exact this) (hN4 k hk4))
  clear hk
  generalize H1 = H at hZ hS hR4 ⊢
  refine lv_iinc (v := 3) (lv' := [(1, .int 3), (0, .ref (Qn (4 + 0)))]) F.1 F.2.1 dX7_init_87 hl (k := 0) rfl rfl (by decide) rfl (fun ls hl => ?_)
  refine lv_goto (tgt := 74) F.1 F.2.1 dX7_init_90 (by decide) ?_
  refine lv_iload_n F.1 F.2.1 dX7_init_74 rfl (lv_at hl 0 rfl) ?_
  refine lv_iconst (v := 4) F.1 F.2.1 dX7_init_75 rfl ?_
  refine lv_icmp_ge (tgt := 93) F.1 F.2.1 dX7_init_76 (by decide) (fun c => absurd c (by decide)) (fun _ => ?_)
  refine lv_aload_n F.1 F.2.1 dX7_init_79 rfl (lv_at hl 1 rfl) ?_
  refine lv_iload_n F.1 F.2.1 dX7_init_80 rfl (lv_at hl 0 rfl) ?_
  refine lv_iconst (v := 0) F.1 F.2.1 dX7_init_81 rfl ?_
  refine lv_bipush (v := 8) F.1 F.2.1 dX7_init_82 rfl ?_
  refine y_callV (b := Qn (4 + 0)) (as := [.int 3, .int 0, .int 8]) (rest := []) wv_X7_40 F hS hAA (tsX7_add l G _ (fun j => Qn (4 + j)) hqS (SS_s (i := 3) (by decide))) hZ (x_recv (C := RX7) (T := TX7) (n := 15) (ci := 5) (k := 0) F hZ rfl (by decide) (eS_0 G _ _)) rfl hl.1 rfl ⟨(Nat.le_of_ble_eq_true rfl), (Nat.le_of_ble_eq_true rfl)⟩ ⟨(Nat.le_of_ble_eq_true rfl), (Nat.le_of_ble_eq_true rfl)⟩ (Nat.le_of_ble_eq_true rfl) dX7_init_84 (fun H1 locs hZ hS hk _ => ?_)
  have hR4 : va_P G.1 vwCl (zwl 4 Qn f) H1 := hR4.kept (fun k x hx => by
    obtain ⟨hk4, ex⟩ := zwl_inv hx
    rw [ex]
    exact hk _ (hR4 k x hx |> fun q => by have := q.lt; rw [ex] at this; exact this) (hN4 k hk4))
  clear hk
  generalize H1 = H at hZ hS hR4 ⊢
  refine lv_iinc (v := 4) (lv' := [(1, .int 4), (0, .ref (Qn (4 + 0)))]) F.1 F.2.1 dX7_init_87 hl (k := 0) rfl rfl (by decide) rfl (fun ls hl => ?_)
  refine lv_goto (tgt := 74) F.1 F.2.1 dX7_init_90 (by decide) ?_
  refine lv_iload_n F.1 F.2.1 dX7_init_74 rfl (lv_at hl 0 rfl) ?_
  refine lv_iconst (v := 4) F.1 F.2.1 dX7_init_75 rfl ?_
  refine lv_icmp_ge (tgt := 93) F.1 F.2.1 dX7_init_76 (by decide) (fun _ => ?_) (fun c => absurd (by decide) c)
  refine y_vret (P1 := (fun H => ∃ qn : Nat → Nat, (∀ k, k < 5 → qn k = qq k) ∧ CW G.1 A 13 qn (fun k => if k < 4 then f k else eS G (fun j => qn (4 + j)) (k - 4) (SS 4 (k - 4))) H)) F ⟨Qn, hqs, va_Pz (fun k hk => ?_), hq13.D _⟩ hS dX7_init_93
  by_cases h4 : k < 4
  · rw [if_pos h4]; exact va_Pk hR4 h4
  · rw [if_neg h4]
    have := va_Pk hZ (k := k - 4) (by omega)
    rw [show 4 + (k - 4) = k by omega] at this
    exact this
