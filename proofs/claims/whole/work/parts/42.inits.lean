/-! CONSTRUCTORS: the processor and the card -/
def EB (G : zG) (Q : Nat → Nat) (i j : Nat) : Nat → va_E := fun k =>
  if k = 1 then .inr (4, [.ref (Q 2), .ref (Q 3), .ref (Q 4), .ref (Q 13), .ref (Q 15), .int 0, .int 0, .int 0, .ref (Q 17), .int 0, .null, .int 0, .int 0, .int 0])
  else if k = 2 then .inl (G.2.1.1, 512, .inl (fun _ => 0))
  else if k = 3 then .inl (G.2.1.2.2.1, 16, .inr (.inr (.inr (.inr (fun x => if x < i then some (Q (18 + x)) else none)))))
  else if k < 13 then eS G (fun x => Q (4 + x)) (k - 4) (SS 4 (k - 4))
  else if k = 13 then .inr (0, [.ref (Q 14), .int 0])
  else if k = 14 then .inl (G.2.1.1, 32, .inl (fun _ => 0))
  else if k = 15 then .inr (0, [.ref (Q 16), .int 0])
  else if k = 16 then .inl (G.2.1.1, 32, .inl (fun _ => 0))
  else if k = 17 then .inl (G.2.1.2.2.2, 8, .inr (.inr (.inr (.inr (fun x => if x < j then some (Q (34 + 3 * x)) else none)))))
  else if k < 34 then .inr (2, [.int 0, .int 0, .int 0])
  else if (k - 34) % 3 = 0 then .inr (1, [.ref (Q (k + 1)), .ref (Q (k + 2)), .int 0, .int 0, .int 0, .int 0])
  else if (k - 34) % 3 = 1 then .inl (G.2.1.1, 8, .inl (fun _ => 0)) else .inl (G.2.1.1, 16, .inl (fun _ => 0))
theorem eS_congr {G : zG} {Q Q' : Nat → Nat} (h : ∀ x, x < 9 → Q' x = Q x) (k : Nat) (r : Nat → Int32) : eS G Q' k r = eS G Q k r := by
  unfold eS
  rw [h 1 (by decide), h 2 (by decide), h 3 (by decide), h 4 (by decide), h 5 (by decide), h 6 (by decide), h 7 (by decide), h 8 (by decide)]
theorem EB_congr {G : zG} {Q Q' : Nat → Nat} {i j k n : Nat} (h : ∀ x, x < n → Q' x = Q x) (h18 : 18 ≤ n) (hi : 18 + i ≤ n) (hj : j = 0 ∨ 34 + 3 * j ≤ n) (hk : k < n) (hkf : 34 ≤ k → (k - 34) % 3 = 0 → k + 2 < n) : EB G Q' i j k = EB G Q i j k := by
  have e3 : (fun x => if x < i then some (Q' (18 + x)) else none) = fun x => if x < i then some (Q (18 + x)) else none := by
    funext x
    by_cases c : x < i
    · rw [if_pos c, if_pos c, h _ (by omega)]
    · rw [if_neg c, if_neg c]
  have e17 : (fun x => if x < j then some (Q' (34 + 3 * x)) else none) = fun x => if x < j then some (Q (34 + 3 * x)) else none := by
    funext x
    by_cases c : x < j
    · rw [if_pos c, if_pos c, h _ (by omega)]
    · rw [if_neg c, if_neg c]
  unfold EB
  rw [e3, e17, eS_congr (Q := fun x => Q (4 + x)) (Q' := fun x => Q' (4 + x)) (fun x hx => h _ (by omega)), h 2 (by omega), h 3 (by omega), h 4 (by omega), h 13 (by omega), h 14 (by omega), h 15 (by omega), h 16 (by omega), h 17 (by omega)]
  by_cases c : 34 ≤ k ∧ (k - 34) % 3 = 0
  · rw [h (k + 1) (by have := hkf c.1 c.2; omega), h (k + 2) (hkf c.1 c.2)]
  · by_cases c1 : k < 34
    · simp only [if_pos c1]
    · have c2 : ¬ (k - 34) % 3 = 0 := fun q => c ⟨by omega, q⟩
      simp only [if_neg c2]
theorem EB_i {G : zG} {Q : Nat → Nat} {i i' j j' k : Nat} (h3 : k ≠ 3) (h17 : k ≠ 17) : EB G Q i j k = EB G Q i' j' k := by
  unfold EB
  simp only [if_neg h3, if_neg h17]
theorem EB_3 {G : zG} {Q : Nat → Nat} {i j : Nat} : EB G Q i j 3 = .inl (G.2.1.2.2.1, 16, .inr (.inr (.inr (.inr (fun x => if x < i then some (Q (18 + x)) else none))))) := rfl
theorem EB_17 {G : zG} {Q : Nat → Nat} {i j : Nat} : EB G Q i j 17 = .inl (G.2.1.2.2.2, 8, .inr (.inr (.inr (.inr (fun x => if x < j then some (Q (34 + 3 * x)) else none))))) := rfl
theorem EB_M {G : zG} {Q : Nat → Nat} {i j k : Nat} (h1 : 18 ≤ k) (h2 : k < 34) : EB G Q i j k = .inr (2, [.int 0, .int 0, .int 0]) := by
  unfold EB
  rw [if_neg (by omega), if_neg (by omega), if_neg (by omega), if_neg (by omega), if_neg (by omega), if_neg (by omega), if_neg (by omega), if_neg (by omega), if_neg (by omega), if_pos h2]
theorem EB_f {G : zG} {Q : Nat → Nat} {i j k : Nat} (h2 : 34 ≤ k) : EB G Q i j k = if (k - 34) % 3 = 0 then .inr (1, [.ref (Q (k + 1)), .ref (Q (k + 2)), .int 0, .int 0, .int 0, .int 0]) else if (k - 34) % 3 = 1 then .inl (G.2.1.1, 8, .inl (fun _ => 0)) else .inl (G.2.1.1, 16, .inl (fun _ => 0)) := by
  unfold EB
  rw [if_neg (by omega), if_neg (by omega), if_neg (by omega), if_neg (by omega), if_neg (by omega), if_neg (by omega), if_neg (by omega), if_neg (by omega), if_neg (by omega), if_neg (by omega)]
def FW (f : Nat → va_E) (G : zG) (Q : Nat → Nat) (i j : Nat) : Nat → va_E := fun k => if k = 0 then f 0 else EB G Q i j k
theorem FW_e {f : Nat → va_E} {G : zG} {Q : Nat → Nat} {i j k : Nat} (h : k ≠ 0) : FW f G Q i j k = EB G Q i j k := if_neg h
def P1X6 (G : zG) (A : Nat → Prop) (f : Nat → va_E) (qq : Nat → Nat) (H : Heap) : Prop := ∃ qn : Nat → Nat, (∀ k, k < 2 → qn k = qq k) ∧ CW G.1 A 58 qn (FW f G qn 16 8) H
theorem k_0_2 : (Jvm.Cond.initialized "CardMachine$Processor") ∈ BW := bw_t1 2 (by decide +kernel) (by decide +kernel)
theorem k_0_3 : (Jvm.Cond.initialized "CardMachine$Store") ∈ BW := bw_t1 3 (by decide +kernel) (by decide +kernel)
theorem k_0_6 : (Jvm.Cond.initialized "CardMachine$ByteRow") ∈ BW := bw_t1 6 (by decide +kernel) (by decide +kernel)
theorem k_0_7 : (Jvm.Cond.initialized "CardMachine$Method") ∈ BW := bw_t1 7 (by decide +kernel) (by decide +kernel)
theorem k_0_8 : (Jvm.Cond.initialized "CardMachine$Frame") ∈ BW := bw_t1 8 (by decide +kernel) (by decide +kernel)
theorem k_0_19 : (Jvm.Cond.methodLink "CardMachine" (1 : Nat) ({ cls := "java/lang/Object", name := "<init>", desc := "()V" } : Jvm.MethodName)) ∈ BW := bw_t1 19 (by decide +kernel) (by decide +kernel)
theorem k_0_22 : (Jvm.Cond.classLink "CardMachine" (7 : Nat) "CardMachine$Processor") ∈ BW := bw_t1 22 (by decide +kernel) (by decide +kernel)
theorem k_0_23 : (Jvm.Cond.instantiable "CardMachine$Processor" (14 : Nat)) ∈ BW := bw_t1 23 (by decide +kernel) (by decide +kernel)
theorem k_0_24 : (Jvm.Cond.methodLink "CardMachine" (9 : Nat) ({ cls := "CardMachine$Processor", name := "<init>", desc := "()V" } : Jvm.MethodName)) ∈ BW := bw_t1 24 (by decide +kernel) (by decide +kernel)
theorem k_0_25 : (Jvm.Cond.instanceMethod ({ cls := "CardMachine$Processor", name := "<init>", desc := "()V" } : Jvm.MethodName)) ∈ BW := bw_t1 25 (by decide +kernel) (by decide +kernel)
theorem k_0_26 : (Jvm.Cond.code ({ cls := "CardMachine$Processor", name := "<init>", desc := "()V" } : Jvm.MethodName) prog_8_method_1_code (2 : Nat) (Option.none : Option Jvm.ClassFile.FieldType)) ∈ BW := bw_t1 26 (by decide +kernel) (by decide +kernel)
theorem k_0_27 : (Jvm.Cond.methodLink "CardMachine$Processor" (3 : Nat) ({ cls := "java/lang/Object", name := "<init>", desc := "()V" } : Jvm.MethodName)) ∈ BW := bw_t1 27 (by decide +kernel) (by decide +kernel)
theorem k_0_28 : (Jvm.Cond.classLink "CardMachine$Processor" (15 : Nat) "CardMachine$Method") ∈ BW := bw_t1 28 (by decide +kernel) (by decide +kernel)
theorem k_0_30 : (Jvm.Cond.classLink "CardMachine$Processor" (21 : Nat) "CardMachine$Store") ∈ BW := bw_t1 30 (by decide +kernel) (by decide +kernel)
theorem k_0_31 : (Jvm.Cond.instantiable "CardMachine$Store" (15 : Nat)) ∈ BW := bw_t1 31 (by decide +kernel) (by decide +kernel)
theorem k_0_32 : (Jvm.Cond.methodLink "CardMachine$Processor" (23 : Nat) ({ cls := "CardMachine$Store", name := "<init>", desc := "()V" } : Jvm.MethodName)) ∈ BW := bw_t1 32 (by decide +kernel) (by decide +kernel)
theorem k_0_33 : (Jvm.Cond.instanceMethod ({ cls := "CardMachine$Store", name := "<init>", desc := "()V" } : Jvm.MethodName)) ∈ BW := bw_t1 33 (by decide +kernel) (by decide +kernel)
theorem k_0_34 : (Jvm.Cond.code ({ cls := "CardMachine$Store", name := "<init>", desc := "()V" } : Jvm.MethodName) prog_9_method_1_code (2 : Nat) (Option.none : Option Jvm.ClassFile.FieldType)) ∈ BW := bw_t1 34 (by decide +kernel) (by decide +kernel)
theorem k_0_117 : (Jvm.Cond.classLink "CardMachine$Processor" (28 : Nat) "CardMachine$ByteRow") ∈ BW := bw_t1 117 (by decide +kernel) (by decide +kernel)
theorem k_0_118 : (Jvm.Cond.instantiable "CardMachine$ByteRow" (2 : Nat)) ∈ BW := bw_t1 118 (by decide +kernel) (by decide +kernel)
theorem k_0_120 : (Jvm.Cond.instanceMethod ({ cls := "CardMachine$ByteRow", name := "<init>", desc := "()V" } : Jvm.MethodName)) ∈ BW := bw_t1 120 (by decide +kernel) (by decide +kernel)
theorem k_0_121 : (Jvm.Cond.code ({ cls := "CardMachine$ByteRow", name := "<init>", desc := "()V" } : Jvm.MethodName) prog_3_method_1_code (1 : Nat) (Option.none : Option Jvm.ClassFile.FieldType)) ∈ BW := bw_t1 121 (by decide +kernel) (by decide +kernel)
theorem k_0_134 : (Jvm.Cond.classLink "CardMachine$Processor" (38 : Nat) "CardMachine$Frame") ∈ BW := bw_t1 134 (by decide +kernel) (by decide +kernel)
theorem k_0_136 : (Jvm.Cond.instantiable "CardMachine$Method" (3 : Nat)) ∈ BW := bw_t1 136 (by decide +kernel) (by decide +kernel)
theorem k_0_138 : (Jvm.Cond.instanceMethod ({ cls := "CardMachine$Method", name := "<init>", desc := "()V" } : Jvm.MethodName)) ∈ BW := bw_t1 138 (by decide +kernel) (by decide +kernel)
theorem k_0_139 : (Jvm.Cond.code ({ cls := "CardMachine$Method", name := "<init>", desc := "()V" } : Jvm.MethodName) prog_5_method_1_code (1 : Nat) (Option.none : Option Jvm.ClassFile.FieldType)) ∈ BW := bw_t1 139 (by decide +kernel) (by decide +kernel)
theorem k_0_155 : (Jvm.Cond.instantiable "CardMachine$Frame" (6 : Nat)) ∈ BW := bw_t1 155 (by decide +kernel) (by decide +kernel)
theorem k_0_157 : (Jvm.Cond.instanceMethod ({ cls := "CardMachine$Frame", name := "<init>", desc := "()V" } : Jvm.MethodName)) ∈ BW := bw_t1 157 (by decide +kernel) (by decide +kernel)
theorem k_0_158 : (Jvm.Cond.code ({ cls := "CardMachine$Frame", name := "<init>", desc := "()V" } : Jvm.MethodName) prog_4_method_1_code (1 : Nat) (Option.none : Option Jvm.ClassFile.FieldType)) ∈ BW := bw_t1 158 (by decide +kernel) (by decide +kernel)
theorem k_0_184 : (Jvm.Cond.fieldLink "CardMachine$Processor" (9 : Nat) "CardMachine$Processor" "code" "[I") ∈ BW := bw_t1 184 (by decide +kernel) (by decide +kernel)
theorem k_0_186 : (Jvm.Cond.fieldLink "CardMachine$Processor" (17 : Nat) "CardMachine$Processor" "methods" "[LCardMachine$Method;") ∈ BW := bw_t1 186 (by decide +kernel) (by decide +kernel)
theorem k_0_188 : (Jvm.Cond.fieldLink "CardMachine$Processor" (24 : Nat) "CardMachine$Processor" "store" "LCardMachine$Store;") ∈ BW := bw_t1 188 (by decide +kernel) (by decide +kernel)
theorem k_0_190 : (Jvm.Cond.fieldLink "CardMachine$Processor" (31 : Nat) "CardMachine$Processor" "command" "LCardMachine$ByteRow;") ∈ BW := bw_t1 190 (by decide +kernel) (by decide +kernel)
theorem k_0_192 : (Jvm.Cond.fieldLink "CardMachine$Processor" (35 : Nat) "CardMachine$Processor" "reply" "LCardMachine$ByteRow;") ∈ BW := bw_t1 192 (by decide +kernel) (by decide +kernel)
theorem k_0_200 : (Jvm.Cond.fieldLink "CardMachine$Processor" (40 : Nat) "CardMachine$Processor" "frames" "[LCardMachine$Frame;") ∈ BW := bw_t1 200 (by decide +kernel) (by decide +kernel)
theorem k_0_235 : (Jvm.Cond.fieldLink "CardMachine" (10 : Nat) "CardMachine" "processor" "LCardMachine$Processor;") ∈ BW := bw_t1 235 (by decide +kernel) (by decide +kernel)
set_option maxHeartbeats 4000000 in
set_option maxRecDepth 100000 in
theorem X6_L2 {p : Program} {l : Launch} {e : Env} {s : State} {m : MethodId} {args : Array Value} {below : List Frame} {meth : Method} {c : Code} {G : zG} {A : Nat → Prop} {b : Nat} {qq : Nat → Nat} {f : Nat → va_E} (F : zFx p s m args meth c cX6_init RX6 2 none G A) (X : zNX s) (hA : ∀ a : Nat, s.heap.size ≤ a → A a) (hbq : qq 1 = b) (n : Nat) : ∀ (j : Nat) (Q : Nat → Nat) (H : Heap) (locs : List Loc) (ls : Array Slot), j + n = 8 → CW G.1 A (34 + 3 * j) Q (FW f G Q 16 j) H → va_S A s.heap H locs → lv_has ls 2 [(1, .int (nI j)), (0, .ref b)] → (∀ k, k < 2 → Q k = qq k) →
    W p l e { frames := 4, cells := 56, slots := 1353, locals := 90 } s m args below meth c H locs (32 + 3 * j) (1113 + 30 * j) (MQ below (va_Qv (fun (_ : Unit) => True) (fun _ U => P1X6 G A f qq U.heap) A) args s 56 1353 A) (F0 m 93 ls []) := by
  induction n with
  | zero =>
    intro j Q H locs ls hj hP hS hl hQ
    obtain rfl : j = 8 := by omega
    refine lv_iload_n F.1 F.2.1 dX6_init_93 rfl (lv_at hl 0 rfl) ?_
    refine lv_bipush (v := 8) F.1 F.2.1 dX6_init_94 rfl ?_
    refine lv_icmp_ge (tgt := 118) F.1 F.2.1 dX6_init_96 (by decide) (fun _ => ?_) (fun c => absurd (by decide) c)
    exact y_vret (P1 := P1X6 G A f qq) F ⟨Q, hQ, hP⟩ hS dX6_init_118
  | succ n ih =>
    intro j Q H locs ls hj hP hS hl hQ
    have hb1 : Q 1 = b := (hQ 1 (by decide)).trans hbq
    refine lv_iload_n F.1 F.2.1 dX6_init_93 rfl (lv_at hl 0 rfl) ?_
    refine lv_bipush (v := 8) F.1 F.2.1 dX6_init_94 rfl ?_
    refine lv_icmp_ge (tgt := 118) F.1 F.2.1 dX6_init_96 (by decide) (fun c => absurd c (nI_ge (b := 8) (by omega) (by decide))) (fun _ => ?_)
    refine lv_aload_n F.1 F.2.1 dX6_init_99 rfl (lv_at hl 1 rfl) ?_
    refine y_get (k := 1) (b := b) (own := RX6) (T := TX6) (j := 8) (ci := 4) (v := .ref (Q 17)) (by exact hb1) in_X6 rfl (by decide) k_0_200 rfl F hP (by omega) (by rfl) (by rfl) dX6_init_100 ?_
    refine lv_iload_n F.1 F.2.1 dX6_init_103 rfl (lv_at hl 0 rfl) ?_
    refine y_newO (own := RX6) (C := RX2) (T := TX2) (ci := 1) (nf := 6) (fs := [.null, .null, .int 0, .int 0, .int 0, .int 0]) in_X2 tyX2_ok rfl k_0_134 k_0_155 k_0_8 (fun j hj => by rcases (show j = 0 ∨ j = 1 ∨ j = 2 ∨ j = 3 ∨ j = 4 ∨ j = 5 by omega) with rfl | rfl | rfl | rfl | rfl | rfl <;> rfl) F hA hP hS (show 32 + 3 * j + 1 ≤ 56 by omega) (show 1113 + 30 * j + 6 ≤ 1353 by omega) dX6_init_104 (fun a H hP hS => ?_)
    refine lv_dup F.1 F.2.1 dX6_init_107 rfl ?_
    refine y_ctorN (own := RX6) (y := yX2_init) (A1 := A) X.2.2.2.1 k_0_157 k_0_8 k_0_158 rfl ⟨by decide, by decide, by decide +kernel⟩ F X hS (fun _ h => h) (fun a ha => hA a (Nat.le_trans hS.1 ha)) (tI_X2 l G A (34 + 3 * j + 1) (34 + 3 * j) _ _ (b := a) (va_up_self _ _ _) (by omega) (va_up_self _ _ _)) hP hl.1 ⟨(Nat.le_of_ble_eq_true rfl), (Nat.le_of_ble_eq_true rfl)⟩ ⟨show 32 + 3 * j + 1 + 2 ≤ 56 by omega, show 1113 + 30 * j + 6 + 24 ≤ 1353 by omega⟩ (Nat.le_of_ble_eq_true rfl) dX6_init_108 (fun H locs hP hS _ _ => ?_)
    obtain ⟨a2, a3, hP⟩ := hP
    have n1 : (17 : Nat) ≠ 34 + 3 * j := by omega
    have n2 : (17 : Nat) ≠ 34 + 3 * j + 1 := by omega
    have n3 : (17 : Nat) ≠ 34 + 3 * j + 1 + 1 := by omega
    refine y_aast (k := 17) (kv := 34 + 3 * j) (t0 := 3) (cX := G.2.1.2.2.2) (n := 8) (g := fun x => if x < j then some (Q (34 + 3 * x)) else none) (r := (RX2, TX2, 6)) (ci := 1) (b := Q 17) (bv := a) (by rw [va_up_ne _ _ n3, va_up_ne _ _ n2, va_up_ne _ _ n1]) (by rw [va_up_ne _ _ (by omega), va_up_ne _ _ (by omega), va_up_self]) rfl rfl F hP hS (by omega) (by rw [va_up_ne _ _ n1, va_up_ne _ _ n3, va_up_ne _ _ n1, va_up_ne _ _ n2, va_up_ne _ _ n1]; rfl) (by omega) (va_up_self _ _ _) (inb_nI (by omega) (by decide)) dX6_init_111 (fun H locs hP hS => ?_)
    refine lv_iinc (v := nI (j + 1)) (lv' := [(1, .int (nI (j + 1))), (0, .ref b)]) F.1 F.2.1 dX6_init_112 hl (k := 0) rfl (nI_1 j) (by decide) rfl (fun ls hl => ?_)
    refine lv_goto (tgt := 93) F.1 F.2.1 dX6_init_115 (by decide) ?_
    refine W.widen (k := 32 + 3 * (j + 1)) (n := 1113 + 30 * (j + 1)) (by omega) (by omega) ?_
    have hQ1 : ∀ x, x < 34 + 3 * j → (va_up (va_up (va_up Q (34 + 3 * j) a) (34 + 3 * j + 1) a2) (34 + 3 * j + 1 + 1) a3) x = Q x := fun x hx => by rw [va_up_ne _ _ (by omega), va_up_ne _ _ (by omega), va_up_ne _ _ (by omega)]
    have q1 : (va_up (va_up (va_up Q (34 + 3 * j) a) (34 + 3 * j + 1) a2) (34 + 3 * j + 1 + 1) a3) (34 + 3 * j) = a := by rw [va_up_ne _ _ (by omega), va_up_ne _ _ (by omega), va_up_self]
    have q2 : (va_up (va_up (va_up Q (34 + 3 * j) a) (34 + 3 * j + 1) a2) (34 + 3 * j + 1 + 1) a3) (34 + 3 * j + 1) = a2 := by rw [va_up_ne _ _ (by omega), va_up_self]
    have q3 : (va_up (va_up (va_up Q (34 + 3 * j) a) (34 + 3 * j + 1) a2) (34 + 3 * j + 1 + 1) a3) (34 + 3 * j + 2) = a3 := va_up_self _ _ _
    generalize va_up (va_up (va_up Q (34 + 3 * j) a) (34 + 3 * j + 1) a2) (34 + 3 * j + 1 + 1) a3 = Q1 at hP hQ1 q1 q2 q3
    refine ih (j + 1) Q1 H locs ls (by omega) ?_ hS hl (fun k hk => (hQ1 k (by omega)).trans (hQ k hk))
    rw [show 34 + 3 * (j + 1) = 34 + 3 * j + 1 + 2 by omega]
    refine hP.congr (fun _ _ => rfl) (fun k hk => ?_)
    by_cases c17 : k = 17
    · subst c17
      rw [va_up_self, FW_e (by decide), EB_17, ix_nI (by omega)]
      congr 7
      funext x
      by_cases cx : x = j
      · subst cx
        rw [if_pos (by omega), va_up_self, q1]
      · rw [va_up_ne _ _ cx]
        by_cases cx2 : x < j
        · rw [if_pos (by omega), if_pos cx2, hQ1 _ (by omega)]
        · rw [if_neg (by omega), if_neg cx2]
    · rw [va_up_ne _ _ c17]
      by_cases c0 : k = 34 + 3 * j
      · subst c0
        rw [va_up_self, FW_e (by omega), EB_f (by omega), if_pos (by omega), q2, q3]
      · rw [va_up_ne _ _ c0]
        by_cases c2 : k = 34 + 3 * j + 1 + 1
        · subst c2
          rw [va_up_self, FW_e (by omega), EB_f (by omega), if_neg (by omega), if_neg (by omega)]
        · rw [va_up_ne _ _ c2, va_up_ne _ _ c0]
          by_cases c1 : k = 34 + 3 * j + 1
          · subst c1
            rw [va_up_self, FW_e (by omega), EB_f (by omega), if_neg (by omega), if_pos (by omega)]
          · rw [va_up_ne _ _ c1, va_up_ne _ _ c0]
            by_cases k0 : k = 0
            · subst k0; rfl
            · rw [FW_e k0, FW_e k0]
              by_cases k3 : k = 3
              · subst k3
                exact (EB_congr (i := 16) (j := j) (n := 34 + 3 * j) (Q := Q) hQ1 (by omega) (by omega) (by omega) (by omega) (by omega))
              · rw [EB_i (i' := 16) (j' := j) k3 c17]
                exact EB_congr (n := 34 + 3 * j) hQ1 (by omega) (by omega) (by omega) (by omega) (by omega)
set_option maxHeartbeats 4000000 in
set_option maxRecDepth 100000 in
theorem X6_L1 {p : Program} {l : Launch} {e : Env} {s : State} {m : MethodId} {args : Array Value} {below : List Frame} {meth : Method} {c : Code} {G : zG} {A : Nat → Prop} {b : Nat} {qq : Nat → Nat} {f : Nat → va_E} (F : zFx p s m args meth c cX6_init RX6 2 none G A) (X : zNX s) (hA : ∀ a : Nat, s.heap.size ≤ a → A a) (hbq : qq 1 = b) (n : Nat) : ∀ (i : Nat) (Q : Nat → Nat) (H : Heap) (locs : List Loc) (ls : Array Slot), i + n = 16 → CW G.1 A (18 + i) Q (FW f G Q i 0) H → va_S A s.heap H locs → lv_has ls 2 [(1, .int (nI i)), (0, .ref b)] → (∀ k, k < 2 → Q k = qq k) →
    W p l e { frames := 4, cells := 56, slots := 1353, locals := 90 } s m args below meth c H locs (16 + i) (1065 + 3 * i) (MQ below (va_Qv (fun (_ : Unit) => True) (fun _ U => P1X6 G A f qq U.heap) A) args s 56 1353 A) (F0 m 66 ls []) := by
  induction n with
  | zero =>
    intro i Q H locs ls hj hP hS hl hQ
    obtain rfl : i = 16 := by omega
    refine lv_iload_n F.1 F.2.1 dX6_init_66 rfl (lv_at hl 0 rfl) ?_
    refine lv_bipush (v := 16) F.1 F.2.1 dX6_init_67 rfl ?_
    refine lv_icmp_ge (tgt := 91) F.1 F.2.1 dX6_init_69 (by decide) (fun _ => ?_) (fun c => absurd (by decide) c)
    refine lv_iconst (v := 0) F.1 F.2.1 dX6_init_91 rfl ?_
    refine lv_istore_n (lv' := [(1, .int (nI 0)), (0, .ref b)]) F.1 F.2.1 dX6_init_92 rfl hl (by decide) rfl (fun ls hl => ?_)
    exact X6_L2 F X hA hbq 8 0 Q H locs ls (by omega) hP hS hl hQ
  | succ n ih =>
    intro i Q H locs ls hj hP hS hl hQ
    have hb1 : Q 1 = b := (hQ 1 (by decide)).trans hbq
    refine lv_iload_n F.1 F.2.1 dX6_init_66 rfl (lv_at hl 0 rfl) ?_
    refine lv_bipush (v := 16) F.1 F.2.1 dX6_init_67 rfl ?_
    refine lv_icmp_ge (tgt := 91) F.1 F.2.1 dX6_init_69 (by decide) (fun c => absurd c (nI_ge (b := 16) (by omega) (by decide))) (fun _ => ?_)
    refine lv_aload_n F.1 F.2.1 dX6_init_72 rfl (lv_at hl 1 rfl) ?_
    refine y_get (k := 1) (b := b) (own := RX6) (T := TX6) (j := 1) (ci := 4) (v := .ref (Q 3)) (by exact hb1) in_X6 rfl (by decide) k_0_186 rfl F hP (by omega) (by rfl) (by rfl) dX6_init_73 ?_
    refine lv_iload_n F.1 F.2.1 dX6_init_76 rfl (lv_at hl 0 rfl) ?_
    refine y_newO (own := RX6) (C := RX3) (T := TX3) (ci := 2) (nf := 3) (fs := [.int 0, .int 0, .int 0]) in_X3 tyX3_ok rfl k_0_28 k_0_136 k_0_7 (fun j hj => by rcases (show j = 0 ∨ j = 1 ∨ j = 2 by omega) with rfl | rfl | rfl <;> rfl) F hA hP hS (show 16 + i + 1 ≤ 56 by omega) (show 1065 + 3 * i + 3 ≤ 1353 by omega) dX6_init_77 (fun a H hP hS => ?_)
    refine lv_dup F.1 F.2.1 dX6_init_80 rfl ?_
    refine y_ctorN (own := RX6) (y := yX3_init) (A1 := A) X.2.2.1 k_0_138 k_0_7 k_0_139 rfl ⟨by decide, by decide, by decide +kernel⟩ F X hS (fun _ h => h) (fun a ha => hA a (Nat.le_trans hS.1 ha)) (tI_X3 l G A (P0 := CW G.1 A (18 + i + 1) (va_up Q (18 + i) a) (va_up (FW f G Q i 0) (18 + i) (.inr (2, [.int 0, .int 0, .int 0])))) (b := a)) hP hl.1 ⟨(Nat.le_of_ble_eq_true rfl), (Nat.le_of_ble_eq_true rfl)⟩ ⟨show 16 + i + 1 + 0 ≤ 56 by omega, show 1065 + 3 * i + 3 + 0 ≤ 1353 by omega⟩ (Nat.le_of_ble_eq_true rfl) dX6_init_81 (fun H locs hP hS _ _ => ?_)
    have n1 : (3 : Nat) ≠ 18 + i := by omega
    refine y_aast (k := 3) (kv := 18 + i) (t0 := 2) (cX := G.2.1.2.2.1) (n := 16) (g := fun x => if x < i then some (Q (18 + x)) else none) (r := (RX3, TX3, 3)) (ci := 2) (b := Q 3) (bv := a) (by rw [va_up_ne _ _ n1]) (by rw [va_up_self]) rfl rfl F hP hS (by omega) (by rw [va_up_ne _ _ n1]; rfl) (by omega) (va_up_self _ _ _) (inb_nI (by omega) (by decide)) dX6_init_84 (fun H locs hP hS => ?_)
    refine lv_iinc (v := nI (i + 1)) (lv' := [(1, .int (nI (i + 1))), (0, .ref b)]) F.1 F.2.1 dX6_init_85 hl (k := 0) rfl (nI_1 i) (by decide) rfl (fun ls hl => ?_)
    refine lv_goto (tgt := 66) F.1 F.2.1 dX6_init_88 (by decide) ?_
    refine W.widen (k := 16 + (i + 1)) (n := 1065 + 3 * (i + 1)) (by omega) (by omega) ?_
    have hQ1 : ∀ x, x < 18 + i → (va_up Q (18 + i) a) x = Q x := fun x hx => va_up_ne _ _ (by omega)
    have q1 : (va_up Q (18 + i) a) (18 + i) = a := va_up_self _ _ _
    generalize va_up Q (18 + i) a = Q1 at hP hQ1 q1
    refine ih (i + 1) Q1 H locs ls (by omega) ?_ hS hl (fun k hk => (hQ1 k (by omega)).trans (hQ k hk))
    rw [show 18 + (i + 1) = 18 + i + 1 by omega]
    refine hP.congr (fun _ _ => rfl) (fun k hk => ?_)
    by_cases c3 : k = 3
    · subst c3
      rw [va_up_self, FW_e (by decide), EB_3, ix_nI (by omega)]
      congr 7
      funext x
      by_cases cx : x = i
      · subst cx
        rw [if_pos (by omega), va_up_self, q1]
      · rw [va_up_ne _ _ cx]
        by_cases cx2 : x < i
        · rw [if_pos (by omega), if_pos cx2, hQ1 _ (by omega)]
        · rw [if_neg (by omega), if_neg cx2]
    · rw [va_up_ne _ _ c3]
      by_cases c0 : k = 18 + i
      · subst c0
        rw [va_up_self, FW_e (by omega), EB_M (by omega) (by omega)]
      · rw [va_up_ne _ _ c0]
        by_cases k0 : k = 0
        · subst k0; rfl
        · rw [FW_e k0, FW_e k0]
          by_cases k17 : k = 17
          · subst k17
            exact EB_congr (i := i) (j := 0) (n := 18 + i) (Q := Q) hQ1 (by omega) (by omega) (by omega) (by omega) (by omega)
          · rw [EB_i (i' := i) (j' := 0) c3 k17]
            exact EB_congr (n := 18 + i) hQ1 (by omega) (by omega) (by omega) (by omega) (by omega)
set_option maxHeartbeats 4000000 in
set_option maxRecDepth 100000 in
theorem tI_X6 (l : Launch) (G : zG) (A : Nat → Prop) (qq : Nat → Nat) (f : Nat → va_E) {b : Nat} (hb : qq 1 = b) (he : f 1 = .inr (4, [.null, .null, .null, .null, .null, .int 0, .int 0, .int 0, .null, .int 0, .null, .int 0, .int 0, .int 0])) : zKN l yX6_init cX6_init 2 4 90 56 1353 G A (CW G.1 A 2 qq f) [.ref b] (fun H => P1X6 G A f qq H) := by
  refine zKN_of (by decide) (Nat.le_of_ble_eq_true rfl) (fun p e s m args below meth c H ls F hn X hA hH hP hl => ?_)
  have F : zFx p s m args meth c cX6_init RX6 2 none G A := F
  have hn : meth.name = "<init>" := hn
  have hS : va_S A s.heap H [] := hH ▸ va_S.rf
  have hl : lv_has ls 2 [(0, .ref b)] := hl
  refine lv_aload_n F.1 F.2.1 dX6_init_0 rfl (lv_at hl 0 rfl) ?_
  refine y_objInit (own := RX6) k_0_27 F hl.1 (Nat.le_of_ble_eq_true rfl) (Nat.le_of_ble_eq_true rfl) dX6_init_1 ?_
  refine lv_aload_n F.1 F.2.1 dX6_init_4 rfl (lv_at hl 0 rfl) ?_
  refine lv_sipush (v := 512) F.1 F.2.1 dX6_init_5 rfl ?_
  refine y_newI (n := 512) rfl (by decide) F hA hP hS (Nat.le_of_ble_eq_true rfl) (Nat.le_of_ble_eq_true rfl) dX6_init_8 (fun a2 H hP hS => ?_)
  refine y_putF (k := 1) (b := b) (own := RX6) (T := TX6) (j := 0) (ci := 4) (ty := (.array .int)) (by exact hb) in_X6 tyX6_ok nmX6 rfl (by decide) k_0_184 rfl rfl rfl (by decide +kernel) hn F hP hS (by omega) (by exact he) (by exact (show 0 < 14 by decide)) rfl rfl dX6_init_10 (fun H locs hP hS => ?_)
  refine lv_aload_n F.1 F.2.1 dX6_init_13 rfl (lv_at hl 0 rfl) ?_
  refine lv_bipush (v := 16) F.1 F.2.1 dX6_init_14 rfl ?_
  refine y_newQ (own := RX6) (C := "CardMachine$Method") (cX := G.2.1.2.2.1) (t0 := 2) (n := 16) rfl k_0_28 X.2.2.2.2.1 rfl (by decide) F hA hP hS (Nat.le_of_ble_eq_true rfl) (Nat.le_of_ble_eq_true rfl) dX6_init_16 (fun a3 H hP hS => ?_)
  refine y_putF (k := 1) (b := b) (own := RX6) (T := TX6) (j := 1) (ci := 4) (ty := (.array (.object "CardMachine$Method"))) (by exact hb) in_X6 tyX6_ok nmX6 rfl (by decide) k_0_186 rfl rfl rfl (by decide +kernel) hn F hP hS (by omega) (by exact rfl) (by exact (show 1 < 14 by decide)) rfl rfl dX6_init_19 (fun H locs hP hS => ?_)
  refine lv_aload_n F.1 F.2.1 dX6_init_22 rfl (lv_at hl 0 rfl) ?_
  refine y_newO (own := RX6) (C := RX7) (T := TX7) (ci := 5) (nf := 15) (fs := [.null, .null, .null, .null, .int 0, .int 0, .null, .null, .int 0, .null, .null, .int 0, .int 0, .int 0, .int 0]) in_X7 tyX7_ok rfl k_0_30 k_0_31 k_0_3 (fun j hj => by rcases (show j = 0 ∨ j = 1 ∨ j = 2 ∨ j = 3 ∨ j = 4 ∨ j = 5 ∨ j = 6 ∨ j = 7 ∨ j = 8 ∨ j = 9 ∨ j = 10 ∨ j = 11 ∨ j = 12 ∨ j = 13 ∨ j = 14 by omega) with rfl | rfl | rfl | rfl | rfl | rfl | rfl | rfl | rfl | rfl | rfl | rfl | rfl | rfl | rfl <;> rfl) F hA hP hS (Nat.le_of_ble_eq_true rfl) (Nat.le_of_ble_eq_true rfl) dX6_init_23 (fun a4 H hP hS => ?_)
  refine lv_dup F.1 F.2.1 dX6_init_26 rfl ?_
  refine y_ctor (own := RX6) (y := yX7_init) (A1 := A) k_0_32 k_0_33 k_0_3 k_0_34 rfl ⟨by decide, by decide, by decide +kernel⟩ F X hS (fun _ h => h) (fun a ha => hA a (Nat.le_trans hS.1 ha)) (tI_X7 l G A _ _ (b := a4) rfl rfl) hP hl.1 ⟨(Nat.le_of_ble_eq_true rfl), (Nat.le_of_ble_eq_true rfl)⟩ ⟨(Nat.le_of_ble_eq_true rfl), (Nat.le_of_ble_eq_true rfl)⟩ (Nat.le_of_ble_eq_true rfl) dX6_init_27 (fun H locs hPn hS _ _ => ?_)
  obtain ⟨Q5, hQ5, hP5⟩ := hPn
  clear hP
  obtain rfl : Q5 4 = a4 := hQ5 4 (by decide)
  obtain rfl : Q5 3 = a3 := hQ5 3 (by decide)
  obtain rfl : Q5 2 = a2 := hQ5 2 (by decide)
  have hP : CW G.1 A 13 Q5 _ H := hP5
  have hb1 : Q5 1 = b := (hQ5 1 (by decide)).trans hb
  have hb0 : Q5 0 = qq 0 := hQ5 0 (by decide)
  refine y_putF (k := 1) (b := b) (own := RX6) (T := TX6) (j := 2) (ci := 4) (ty := (.object "CardMachine$Store")) (by exact hb1) in_X6 tyX6_ok nmX6 rfl (by decide) k_0_188 rfl rfl rfl (by decide +kernel) hn F hP hS (by omega) (by exact rfl) (by exact (show 2 < 14 by decide)) rfl rfl dX6_init_30 (fun H locs hP hS => ?_)
  refine lv_aload_n F.1 F.2.1 dX6_init_33 rfl (lv_at hl 0 rfl) ?_
  refine y_newO (own := RX6) (C := RX1) (T := TX1) (ci := 0) (nf := 2) (fs := [.null, .int 0]) in_X1 tyX1_ok rfl k_0_117 k_0_118 k_0_6 (fun j hj => by rcases (show j = 0 ∨ j = 1 by omega) with rfl | rfl <;> rfl) F hA hP hS (Nat.le_of_ble_eq_true rfl) (Nat.le_of_ble_eq_true rfl) dX6_init_34 (fun a13 H hP hS => ?_)
  refine lv_dup F.1 F.2.1 dX6_init_37 rfl ?_
  refine y_ctorN (own := RX6) (y := yX1_init) (A1 := A) X.2.1 k_0_120 k_0_6 k_0_121 rfl ⟨by decide, by decide, by decide +kernel⟩ F X hS (fun _ h => h) (fun a ha => hA a (Nat.le_trans hS.1 ha)) (tI_X1 l G A 14 13 _ _ (b := a13) rfl (by decide) rfl) hP hl.1 ⟨(Nat.le_of_ble_eq_true rfl), (Nat.le_of_ble_eq_true rfl)⟩ ⟨(Nat.le_of_ble_eq_true rfl), (Nat.le_of_ble_eq_true rfl)⟩ (Nat.le_of_ble_eq_true rfl) dX6_init_38 (fun H locs hP hS _ _ => ?_)
  obtain ⟨a14, hP⟩ := hP
  refine y_putF (k := 1) (b := b) (own := RX6) (T := TX6) (j := 3) (ci := 4) (ty := (.object "CardMachine$ByteRow")) (by exact hb1) in_X6 tyX6_ok nmX6 rfl (by decide) k_0_190 rfl rfl rfl (by decide +kernel) hn F hP hS (by omega) (by exact rfl) (by exact (show 3 < 14 by decide)) rfl rfl dX6_init_41 (fun H locs hP hS => ?_)
  refine lv_aload_n F.1 F.2.1 dX6_init_44 rfl (lv_at hl 0 rfl) ?_
  refine y_newO (own := RX6) (C := RX1) (T := TX1) (ci := 0) (nf := 2) (fs := [.null, .int 0]) in_X1 tyX1_ok rfl k_0_117 k_0_118 k_0_6 (fun j hj => by rcases (show j = 0 ∨ j = 1 by omega) with rfl | rfl <;> rfl) F hA hP hS (Nat.le_of_ble_eq_true rfl) (Nat.le_of_ble_eq_true rfl) dX6_init_45 (fun a15 H hP hS => ?_)
  refine lv_dup F.1 F.2.1 dX6_init_48 rfl ?_
  refine y_ctorN (own := RX6) (y := yX1_init) (A1 := A) X.2.1 k_0_120 k_0_6 k_0_121 rfl ⟨by decide, by decide, by decide +kernel⟩ F X hS (fun _ h => h) (fun a ha => hA a (Nat.le_trans hS.1 ha)) (tI_X1 l G A 16 15 _ _ (b := a15) rfl (by decide) rfl) hP hl.1 ⟨(Nat.le_of_ble_eq_true rfl), (Nat.le_of_ble_eq_true rfl)⟩ ⟨(Nat.le_of_ble_eq_true rfl), (Nat.le_of_ble_eq_true rfl)⟩ (Nat.le_of_ble_eq_true rfl) dX6_init_49 (fun H locs hP hS _ _ => ?_)
  obtain ⟨a16, hP⟩ := hP
  refine y_putF (k := 1) (b := b) (own := RX6) (T := TX6) (j := 4) (ci := 4) (ty := (.object "CardMachine$ByteRow")) (by exact hb1) in_X6 tyX6_ok nmX6 rfl (by decide) k_0_192 rfl rfl rfl (by decide +kernel) hn F hP hS (by omega) (by exact rfl) (by exact (show 4 < 14 by decide)) rfl rfl dX6_init_52 (fun H locs hP hS => ?_)
  refine lv_aload_n F.1 F.2.1 dX6_init_55 rfl (lv_at hl 0 rfl) ?_
  refine lv_bipush (v := 8) F.1 F.2.1 dX6_init_56 rfl ?_
  refine y_newQ (own := RX6) (C := "CardMachine$Frame") (cX := G.2.1.2.2.2) (t0 := 3) (n := 8) rfl k_0_134 X.2.2.2.2.2 rfl (by decide) F hA hP hS (Nat.le_of_ble_eq_true rfl) (Nat.le_of_ble_eq_true rfl) dX6_init_58 (fun a17 H hP hS => ?_)
  refine y_putF (k := 1) (b := b) (own := RX6) (T := TX6) (j := 8) (ci := 4) (ty := (.array (.object "CardMachine$Frame"))) (by exact hb1) in_X6 tyX6_ok nmX6 rfl (by decide) k_0_200 rfl rfl rfl (by decide +kernel) hn F hP hS (by omega) (by exact rfl) (by exact (show 8 < 14 by decide)) rfl rfl dX6_init_61 (fun H locs hP hS => ?_)
  have e0 : (fun _ : Nat => (none : Option Nat)) = fun x => if x < 0 then some ((va_up (va_up (va_up (va_up (va_up Q5 13 a13) 14 a14) 15 a15) 16 a16) 17 a17) (18 + x)) else none := by funext x; rw [if_neg (Nat.not_lt_zero _)]
  have e1 : (fun _ : Nat => (none : Option Nat)) = fun x => if x < 0 then some ((va_up (va_up (va_up (va_up (va_up Q5 13 a13) 14 a14) 15 a15) 16 a16) 17 a17) (34 + 3 * x)) else none := by funext x; rw [if_neg (Nat.not_lt_zero _)]
  have hC : CW G.1 A 18 (va_up (va_up (va_up (va_up (va_up Q5 13 a13) 14 a14) 15 a15) 16 a16) 17 a17) (FW f G (va_up (va_up (va_up (va_up (va_up Q5 13 a13) 14 a14) 15 a15) 16 a16) 17 a17) 0 0) H := CW.congr (qq := va_up (va_up (va_up (va_up (va_up Q5 13 a13) 14 a14) 15 a15) 16 a16) 17 a17) hP (fun _ _ => rfl) (fun k hk => by
    match k, hk with
    | 0, _ => rfl
    | 1, _ => rfl
    | 2, _ => rfl
    | 3, _ => rw [FW_e (by decide), EB_3, ← e0]; rfl
    | 4, _ => rfl
    | 5, _ => rfl
    | 6, _ => rfl
    | 7, _ => rfl
    | 8, _ => rfl
    | 9, _ => rfl
    | 10, _ => rfl
    | 11, _ => rfl
    | 12, _ => rfl
    | 13, _ => rfl
    | 14, _ => rfl
    | 15, _ => rfl
    | 16, _ => rfl
    | 17, _ => rw [FW_e (by decide), EB_17, ← e1]; rfl
    | n + 18, h => exact absurd h (by omega))
  refine lv_iconst (v := 0) F.1 F.2.1 dX6_init_64 rfl ?_
  refine lv_istore_n (lv' := [(1, .int (nI 0)), (0, .ref b)]) F.1 F.2.1 dX6_init_65 rfl hl (by decide) rfl (fun ls hl => ?_)
  refine W.widen (k := 16 + 0) (n := 1065 + 3 * 0) (Nat.le_of_ble_eq_true rfl) (Nat.le_of_ble_eq_true rfl) ?_
  exact X6_L1 F X hA hb 16 0 _ H _ ls (by omega) hC hS hl (fun k hk => by
    match k, hk with
    | 0, _ => exact hb0
    | 1, _ => exact hb1.trans hb.symm
    | n + 2, h => exact absurd h (by omega))
set_option maxHeartbeats 4000000 in
set_option maxRecDepth 100000 in
theorem tI_X8 (l : Launch) (G : zG) (A : Nat → Prop) (qq : Nat → Nat) (f : Nat → va_E) {b : Nat} (hb : qq 0 = b) (he : f 0 = .inr (6, [.null])) : zKN l yX8_init cX8_init 1 5 111 57 1367 G A (CW G.1 A 1 qq f) [.ref b] (fun H => ∃ qn : Nat → Nat, qn 0 = b ∧ CW G.1 A 58 qn (fun k => if k = 0 then .inr (6, [.ref (qn 1)]) else EB G qn 16 8 k) H) := by
  refine zKN_of (by decide) (Nat.le_of_ble_eq_true rfl) (fun p e s m args below meth c H ls F hn X hA hH hP hl => ?_)
  have F : zFx p s m args meth c cX8_init RX8 1 none G A := F
  have hn : meth.name = "<init>" := hn
  have hS : va_S A s.heap H [] := hH ▸ va_S.rf
  have hl : lv_has ls 1 [(0, .ref b)] := hl
  refine lv_aload_n F.1 F.2.1 dX8_init_0 rfl (lv_at hl 0 rfl) ?_
  refine y_objInit (own := RX8) k_0_19 F hl.1 (Nat.le_of_ble_eq_true rfl) (Nat.le_of_ble_eq_true rfl) dX8_init_1 ?_
  refine lv_aload_n F.1 F.2.1 dX8_init_4 rfl (lv_at hl 0 rfl) ?_
  refine y_newO (own := RX8) (C := RX6) (T := TX6) (ci := 4) (nf := 14) (fs := [.null, .null, .null, .null, .null, .int 0, .int 0, .int 0, .null, .int 0, .null, .int 0, .int 0, .int 0]) in_X6 tyX6_ok rfl k_0_22 k_0_23 k_0_2 (fun j hj => by rcases (show j = 0 ∨ j = 1 ∨ j = 2 ∨ j = 3 ∨ j = 4 ∨ j = 5 ∨ j = 6 ∨ j = 7 ∨ j = 8 ∨ j = 9 ∨ j = 10 ∨ j = 11 ∨ j = 12 ∨ j = 13 by omega) with rfl | rfl | rfl | rfl | rfl | rfl | rfl | rfl | rfl | rfl | rfl | rfl | rfl | rfl <;> rfl) F hA hP hS (Nat.le_of_ble_eq_true rfl) (Nat.le_of_ble_eq_true rfl) dX8_init_5 (fun a1 H hP hS => ?_)
  refine lv_dup F.1 F.2.1 dX8_init_8 rfl ?_
  refine y_ctor (own := RX8) (y := yX6_init) (A1 := A) k_0_24 k_0_25 k_0_2 k_0_26 rfl ⟨by decide, by decide, by decide +kernel⟩ F X hS (fun _ h => h) (fun a ha => hA a (Nat.le_trans hS.1 ha)) (tI_X6 l G A _ _ (b := a1) rfl rfl) hP hl.1 ⟨(Nat.le_of_ble_eq_true rfl), (Nat.le_of_ble_eq_true rfl)⟩ ⟨(Nat.le_of_ble_eq_true rfl), (Nat.le_of_ble_eq_true rfl)⟩ (Nat.le_of_ble_eq_true rfl) dX8_init_9 (fun H locs hPn hS _ _ => ?_)
  obtain ⟨Q, hQ, hP5⟩ := hPn
  clear hP
  have q1 : Q 1 = a1 := hQ 1 (by decide)
  have q0 : Q 0 = b := (hQ 0 (by decide)).trans hb
  subst q1
  have hP : CW G.1 A 58 Q _ H := hP5
  refine y_putF (k := 0) (b := b) (own := RX8) (T := TX8) (j := 0) (ci := 6) (ty := (.object "CardMachine$Processor")) (by exact q0) in_X8 tyX8_ok nmX8 rfl (by decide) k_0_235 rfl rfl rfl (by decide +kernel) hn F hP hS (by omega) (by exact he) (by exact (show 0 < 1 by decide)) rfl rfl dX8_init_12 (fun H locs hP hS => ?_)
  refine y_vret (P1 := (fun H => ∃ qn : Nat → Nat, qn 0 = b ∧ CW G.1 A 58 qn (fun k => if k = 0 then .inr (6, [.ref (qn 1)]) else EB G qn 16 8 k) H)) F ⟨Q, q0, hP.congr (fun _ _ => rfl) (fun k hk => ?_)⟩ hS dX8_init_15
  by_cases c : k = 0
  · subst c; rw [va_up_self, if_pos rfl]; rfl
  · rw [va_up_ne _ _ c, if_neg c, FW_e c]
