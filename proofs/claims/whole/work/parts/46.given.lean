/-! THE GIVEN: constants, their array, the switches' table, the classes, out of the start -/
def GLS : List Cond := flatC (Jvm.Cond.and given_1 narrow_1)
def exP : List Nat := [152, 158, 164, 170, 176, 182, 188, 194, 200, 206, 212, 116, 218, 224, 230, 236, 242, 248, 254, 260, 266, 122, 272, 128, 134, 278, 284, 290, 55, 61, 296, 302, 308, 314, 320, 326, 146, 332, 338, 140, 344, 350, 356, 362, 368, 374]
def plP : List (Nat × Nat) := [(3, 173), (3, 174), (3, 175), (3, 176), (3, 177), (3, 178), (3, 179), (3, 180), (3, 181), (3, 182), (3, 183), (1, 121), (3, 184), (3, 185), (3, 186), (3, 187), (3, 188), (3, 189), (3, 190), (3, 191), (3, 192), (1, 131), (3, 193), (1, 133), (1, 158), (3, 194), (3, 195), (3, 196), (1, 64), (1, 66), (3, 197), (3, 198), (3, 199), (3, 200), (3, 201), (3, 202), (2, 5), (3, 203), (3, 204), (2, 3), (3, 205), (3, 206), (3, 207), (3, 208), (3, 209), (3, 210)]
def tabs (k : Nat) : List Cond := if k = 1 then tables_1_2 else if k = 2 then tables_1_3 else tables_1_4
abbrev opT (i : Nat) : Term := .static "CardMachine$Op" (opNm.getD i "") "LCardMachine$Op;"
theorem tabs_sub (k : Nat) {w : Cond} (h : w ∈ tabs k) : w ∈ lw_tbl := by
  unfold tabs at h
  by_cases h1 : k = 1
  · rw [if_pos h1] at h; exact List.mem_append_right _ (List.mem_append_right _ (List.mem_append_left _ h))
  · rw [if_neg h1] at h
    by_cases h2 : k = 2
    · rw [if_pos h2] at h; exact List.mem_append_right _ (List.mem_append_right _ (List.mem_append_right _ (List.mem_append_left _ h)))
    · rw [if_neg h2] at h; exact List.mem_append_right _ (List.mem_append_right _ (List.mem_append_right _ (List.mem_append_right _ h)))
theorem g_ls : ∀ i ∈ List.range 46, (tabs (plP.getD i (0, 0)).1)[(plP.getD i (0, 0)).2]? = some (Cond.laysStatic "CardMachine$Op" (opNm.getD i "") "LCardMachine$Op;") := by decide +kernel
theorem g_ex : ∀ i ∈ List.range 46, GLS[exP.getD i 0]? = some (Cond.exactly (opT i) "CardMachine$Op") := by decide +kernel
theorem g_kind : ∀ i ∈ List.range 46, GLS[exP.getD i 0 + 2]? = some (Cond.eq (.field (opT i) "CardMachine$Op" "kind" "I") (.int (opKind.getD i 0))) := by decide +kernel
theorem g_length : ∀ i ∈ List.range 46, GLS[exP.getD i 0 + 3]? = some (Cond.eq (.field (opT i) "CardMachine$Op" "length" "I") (.int (opLength.getD i 0))) := by decide +kernel
theorem g_takes : ∀ i ∈ List.range 46, GLS[exP.getD i 0 + 4]? = some (Cond.eq (.field (opT i) "CardMachine$Op" "takes" "I") (.int (opTakes.getD i 0))) := by decide +kernel
theorem g_puts : ∀ i ∈ List.range 46, GLS[exP.getD i 0 + 5]? = some (Cond.eq (.field (opT i) "CardMachine$Op" "puts" "I") (.int (opPuts.getD i 0))) := by decide +kernel
theorem g_ordinal : ∀ i ∈ List.range 46, GLS[exP.getD i 0 + 1]? = some (Cond.eq (.field (opT i) "java/lang/Enum" "ordinal" "I") (.int (opOrd.getD i 0))) := by decide +kernel
theorem g_ops : ∀ i ∈ List.range 46, GLS[9 + i]? = some (Cond.eq (.elem (.static "CardMachine" "OPS" "[LCardMachine$Op;") (.int (Int32.ofNat i))) (opT i)) := by decide +kernel
theorem g_sw : ∀ i ∈ List.range 46, GLS[70 + i]? = some (Cond.eq (.elem (.static "CardMachine$1" "$SwitchMap$CardMachine$Op" "[I") (.int (Int32.ofNat i))) (.int (opSw.getD i 0))) := by decide +kernel
theorem g_oa : Cond.arrayOf (.static "CardMachine" "OPS" "[LCardMachine$Op;") (.object "CardMachine$Op") ∈ GLS := List.mem_of_getElem? (i := 6) (by decide +kernel)
theorem g_ol : Cond.eq (.length (.static "CardMachine" "OPS" "[LCardMachine$Op;")) (.int 46) ∈ GLS := List.mem_of_getElem? (i := 7) (by decide +kernel)
theorem g_sa : Cond.arrayOf (.static "CardMachine$1" "$SwitchMap$CardMachine$Op" "[I") .int ∈ GLS := List.mem_of_getElem? (i := 68) (by decide +kernel)
theorem g_sl : Cond.eq (.length (.static "CardMachine$1" "$SwitchMap$CardMachine$Op" "[I")) (.int 46) ∈ GLS := List.mem_of_getElem? (i := 69) (by decide +kernel)
theorem t_ops : Cond.laysStatic "CardMachine" "OPS" "[LCardMachine$Op;" ∈ lw_tbl := List.mem_append_right _ (List.mem_append_right _ (List.mem_append_left _ (List.mem_of_getElem? (i := 62) (by decide +kernel))))
theorem t_nest : Cond.fieldLinkNest "CardMachine$Processor" 112 "CardMachine" "OPS" "[LCardMachine$Op;" "CardMachine" ∈ lw_tbl := List.mem_append_right _ (List.mem_append_right _ (List.mem_append_left _ (List.mem_of_getElem? (i := 61) (by decide +kernel))))
theorem t_sw : Cond.laysStatic "CardMachine$1" "$SwitchMap$CardMachine$Op" "[I" ∈ lw_tbl := List.mem_append_right _ (List.mem_append_right _ (List.mem_append_left _ (List.mem_of_getElem? (i := 77) (by decide +kernel))))
theorem t_i1 : Cond.initialized "CardMachine" ∈ lw_tbl := List.mem_append_right _ (List.mem_append_left _ (List.mem_of_getElem? (i := 1) (by decide +kernel)))
theorem t_iO : Cond.initialized "CardMachine$Op" ∈ lw_tbl := List.mem_append_right _ (List.mem_append_left _ (List.mem_of_getElem? (i := 11) (by decide +kernel)))
theorem t_iS : Cond.initialized "CardMachine$1" ∈ lw_tbl := List.mem_append_right _ (List.mem_append_left _ (List.mem_of_getElem? (i := 12) (by decide +kernel)))
theorem t_n5 : Cond.methodLinkNest "CardMachine$Store" 11 yX5_init "CardMachine" ∈ lw_tbl := List.mem_append_right _ (List.mem_append_left _ (List.mem_of_getElem? (i := 38) (by decide +kernel)))
theorem t_n1 : Cond.methodLinkNest "CardMachine$Processor" 30 yX1_init "CardMachine" ∈ lw_tbl := List.mem_append_right _ (List.mem_append_left _ (List.mem_of_getElem? (i := 119) (by decide +kernel)))
theorem t_n3 : Cond.methodLinkNest "CardMachine$Processor" 44 yX3_init "CardMachine" ∈ lw_tbl := List.mem_append_right _ (List.mem_append_left _ (List.mem_of_getElem? (i := 137) (by decide +kernel)))
theorem t_n2 : Cond.methodLinkNest "CardMachine$Processor" 45 yX2_init "CardMachine" ∈ lw_tbl := List.mem_append_right _ (List.mem_append_left _ (List.mem_of_getElem? (i := 156) (by decide +kernel)))
theorem t_aM : Cond.arrayOver (.object "CardMachine$Method") ∈ lw_tbl := List.mem_append_right _ (List.mem_append_left _ (List.mem_of_getElem? (i := 29) (by decide +kernel)))
theorem t_aF : Cond.arrayOver (.object "CardMachine$Frame") ∈ lw_tbl := List.mem_append_right _ (List.mem_append_left _ (List.mem_of_getElem? (i := 135) (by decide +kernel)))
theorem bw_tbl {w : Cond} (h : w ∈ BW) : w ∈ lw_tbl := (List.mem_filter.mp h).1
theorem kq_8 : Cond.instantiable "CardMachine" 1 ∈ BW := bw_t1 15 (by decide +kernel) (by decide +kernel)
theorem kq_9 : Cond.instantiable "CardMachineModel" 37 ∈ BW := bw_t3 95 (by decide +kernel) (by decide +kernel)
theorem OF_inj {o n d : String} {x y : Int32} {t : Nat} {A : Nat → Prop} {U : State} {H : Heap} (h : va_OF o n d (.int x) t A U H) (h' : va_OF o n d (.int y) t A U H) : x = y := by
  obtain ⟨cf, k, i, f, cell, h1, -, h3, -, h5, -⟩ := h
  obtain ⟨cf', k', i', f', cell', g1, -, g3, -, g5, -⟩ := h'
  cases h1.symm.trans g1
  cases h3.symm.trans g3
  have := h5.symm.trans g5
  cases this
  rfl
theorem ord_id : ∀ i ∈ List.range 46, opOrd.getD i 0 = nI i := by decide +kernel
theorem given_en {args : Array Value} {s : State} {A : Nat → Prop} (hs : ∀ c ∈ GLS, c.before args s = true) (ht : ∀ w ∈ lw_tbl, w.before args s = true) (hA : ∀ a : Nat, a < s.heap.size → ¬ A a) : ∃ ad : Nat → Nat, va_En "CardMachine$Op" "LCardMachine$Op;" opNm opF ad A s s.heap ∧ ∀ i, i < 46 → (opT i).eval args s none [] s = some (.ref (ad i)) := by
  have hlen : opNm.length = 46 := rfl
  have at' : ∀ {p : Nat} {w : Cond}, GLS[p]? = some w → w.before args s = true := fun h => hs _ (List.mem_of_getElem? h)
  have h0 : ∀ i : Nat, ∃ t : Nat, i < 46 → (opT i).eval args s none [] s = some (.ref t) ∧ va_O "CardMachine$Op" t A s s.heap := by
    intro i
    by_cases hi : i < 46
    · obtain ⟨a, c, cell, k, q1, q2, q3, q4, q5, q6, -⟩ := Cond.exactly_spec (at' (g_ex i (List.mem_range.mpr hi)))
      exact ⟨a, fun _ => ⟨q1, cell, q3, q5, by rw [q6]; exact q2, hA a (Array.getElem?_eq_some_iff.mp q3).1⟩⟩
    · exact ⟨0, fun h => absurd h hi⟩
  obtain ⟨ad, had⟩ := Classical.axiomOfChoice h0
  have hf : ∀ q ∈ opF, ∀ i, i < 46 → va_OF q.1 q.2.1 q.2.2.1 (.int (q.2.2.2.getD i 0)) (ad i) A s s.heap := by
    intro q hq i hi
    have hi' := List.mem_range.mpr hi
    have hv : (Term.field (opT i) q.1 q.2.1 q.2.2.1).eval args s none [] s = some (.int (q.2.2.2.getD i 0)) := by
      simp only [opF, List.mem_cons, List.not_mem_nil, or_false] at hq
      rcases hq with rfl | rfl | rfl | rfl | rfl
      · exact va_eqt (at' (g_kind i hi'))
      · exact va_eqt (at' (g_length i hi'))
      · exact va_eqt (at' (g_takes i hi'))
      · exact va_eqt (at' (g_puts i hi'))
      · exact va_eqt (at' (g_ordinal i hi'))
    cases hfo : s.fieldFound? q.1 q.2.1 q.2.2.1 with
    | none =>
      rw [va_fe (had i hi).1] at hv
      simp [State.fieldOf?, State.fieldNamed?, hfo] at hv
    | some x =>
      obtain ⟨cf, k, fi, f⟩ := x
      obtain ⟨g1, cell, g2, g3, -, -, g6⟩ := Term.field_spec hfo (had i hi).1 hv
      exact ⟨cf, k, fi, f, cell, hfo, g1, g2, g3, g6, hA _ (Array.getElem?_eq_some_iff.mp g2).1⟩
  refine ⟨ad, ⟨fun i hi => ⟨va_Zref (ht _ (tabs_sub _ (List.mem_of_getElem? (g_ls i (List.mem_range.mpr hi))))) (ht _ t_iO) (had i hi).1 hA, (had i hi).2, fun q hq => hf q hq i hi⟩, fun i j hi hj e => ?_⟩, fun i hi => (had i hi).1⟩
  have h1 := hf _ e_ordinal i hi
  have h2 := hf _ e_ordinal j hj
  rw [e] at h1
  have h3 := OF_inj h1 h2
  rw [ord_id i (List.mem_range.mpr hi), ord_id j (List.mem_range.mpr hj)] at h3
  have hi2 : i < 46 := hi
  have hj2 : j < 46 := hj
  exact nI_eqI (by omega) (by omega) h3
theorem given_SF {args : Array Value} {s : State} {A : Nat → Prop} (hs : ∀ c ∈ GLS, c.before args s = true) (ht : ∀ w ∈ lw_tbl, w.before args s = true) (hA : ∀ a : Nat, a < s.heap.size → ¬ A a) : ∃ (ad : Nat → Nat) (tO tS : Nat), zSF ad tO tS A s s.heap := by
  have at' : ∀ {p : Nat} {w : Cond}, GLS[p]? = some w → w.before args s = true := fun h => hs _ (List.mem_of_getElem? h)
  obtain ⟨ad, hE, hev⟩ := given_en hs ht hA
  obtain ⟨tO, o1, o2⟩ := va_Tof (N := 46) (f := fun j => .ref (ad j)) (by decide) (hs _ g_oa) (va_eqt (hs _ g_ol)) (fun j hj => va_eqv (at' (g_ops j (List.mem_range.mpr hj))) (hev j hj)) hA
  obtain ⟨tS, s1, s2⟩ := va_Tof (N := 46) (f := fun j => .int (opSw.getD j 0)) (by decide) (hs _ g_sa) (va_eqt (hs _ g_sl)) (fun j hj => va_eqt (at' (g_sw j (List.mem_range.mpr hj)))) hA
  exact ⟨ad, tO, tS, hE, ⟨va_Zref (ht _ t_ops) (ht _ t_i1) o1 hA, o2⟩, ⟨va_Zref (ht _ t_sw) (ht _ t_iS) s1 hA, s2⟩, va_Nw.of rfl (ht _ t_nest)⟩
theorem given_NX {args : Array Value} {s : State} (ht : ∀ w ∈ lw_tbl, w.before args s = true) : zNX s :=
  ⟨va_Nw.of rfl (ht _ t_n5), va_Nw.of rfl (ht _ t_n1), va_Nw.of rfl (ht _ t_n3), va_Nw.of rfl (ht _ t_n2), va_AO.of (ht _ t_aM), va_AO.of (ht _ t_aF)⟩
theorem given_ar {s : State} {args : Array Value} {ty : FieldType} (h : (Cond.arrayClass ty).before args s = true) : ∃ c : ClassId, ArrOfT s c ty ∧ s.vm.findClass ("[" ++ ty.toString) = some c := by
  obtain ⟨c, k, comp, h1, h2, h3⟩ := Cond.arrayClass_spec h
  exact ⟨c, fun n z => ⟨fun k h => (by cases h), k, h2, comp, h3⟩, h1⟩
theorem given_ao {s : State} {args : Array Value} {C : String} (h : (Cond.arrayOver (.object C)).before args s = true) : ∃ c : ClassId, ArrOfT s c (.object C) ∧ va_RA s c (.object C) := by
  obtain ⟨comp, c, k, h1, h2, h3, h4, h5⟩ := Cond.arrayOver_spec h
  exact ⟨c, fun n z => ⟨fun k h => (by cases h), k, h3, comp, h4⟩, k, comp, h3, h4, h1, h5⟩
theorem given_K {args : Array Value} {s : State} (ht : ∀ w ∈ lw_tbl, w.before args s = true) : ∃ (D : va_G) (cI cZ cM cF : ClassId), va_K D vwCl (zT cI cZ cM cF) s := by
  have hb : ∀ w ∈ BW, w.before args s = true := fun w h => ht w (bw_tbl h)
  obtain ⟨c0, i0, k0⟩ := u_known (C := RX1) (T := TX1) (N := 2) (n := 2) hb in_X1 (hb _ k_0_118)
  obtain ⟨c1, i1, k1⟩ := u_known (C := RX2) (T := TX2) (N := 6) (n := 6) hb in_X2 (hb _ k_0_155)
  obtain ⟨c2, i2, k2⟩ := u_known (C := RX3) (T := TX3) (N := 3) (n := 3) hb in_X3 (hb _ k_0_136)
  obtain ⟨c3, i3, k3⟩ := u_known (C := RX5) (T := TX5) (N := 2) (n := 2) hb in_X5 (hb _ k_0_37)
  obtain ⟨c4, i4, k4⟩ := u_known (C := RX6) (T := TX6) (N := 14) (n := 14) hb in_X6 (hb _ k_0_23)
  obtain ⟨c5, i5, k5⟩ := u_known (C := RX7) (T := TX7) (N := 15) (n := 15) hb in_X7 (hb _ k_0_31)
  obtain ⟨c6, i6, k6⟩ := u_known (C := RX8) (T := TX8) (N := 1) (n := 1) hb in_X8 (hb _ kq_8)
  obtain ⟨c7, i7, k7⟩ := u_known (C := RX9) (T := TX9) (N := 37) (n := 37) hb in_X9 (hb _ kq_9)
  obtain ⟨cI, aI, fI⟩ := given_ar (hb _ w_ai)
  obtain ⟨cZ, aZ, fZ⟩ := given_ar (hb _ w_az)
  obtain ⟨cM, aM, fM⟩ := given_ao (ht _ t_aM)
  obtain ⟨cF, aF, fF⟩ := given_ao (ht _ t_aF)
  refine ⟨(fun k => if k = 0 then c0 else if k = 1 then c1 else if k = 2 then c2 else if k = 3 then c3 else if k = 4 then c4 else if k = 5 then c5 else if k = 6 then c6 else c7, fun k => if k = 0 then i0 else if k = 1 then i1 else if k = 2 then i2 else if k = 3 then i3 else if k = 4 then i4 else if k = 5 then i5 else if k = 6 then i6 else i7), cI, cZ, cM, cF, fun c q hq => ?_, fun k q hq => ?_⟩
  · match c, hq with
    | 0, hq => cases hq; exact k0
    | 1, hq => cases hq; exact k1
    | 2, hq => cases hq; exact k2
    | 3, hq => cases hq; exact k3
    | 4, hq => cases hq; exact k4
    | 5, hq => cases hq; exact k5
    | 6, hq => cases hq; exact k6
    | 7, hq => cases hq; exact k7
    | n + 8, hq => simp [vwCl] at hq
  · match k, hq with
    | 0, hq => cases hq; exact ⟨aI, fI⟩
    | 1, hq => cases hq; exact ⟨aZ, fZ⟩
    | 2, hq => cases hq; exact ⟨aM, fM⟩
    | 3, hq => cases hq; exact ⟨aF, fF⟩
    | n + 4, hq => simp [zT] at hq
