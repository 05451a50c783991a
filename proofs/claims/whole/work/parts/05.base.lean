/-! THE BASE: words, worlds by an index, contracts of one form, rows in that form. -/
-- the words of the tables that pass from a caller to its callee
def BW : List Cond := lw_tbl.filter goodWord
theorem bw_of {w : Cond} (h : w ∈ lw_tbl) (hg : goodWord w = true) : w ∈ BW := List.mem_filter.mpr ⟨h, hg⟩
theorem bw_t1 {w : Cond} (i : Nat) (h : tables_1_1[i]? = some w) (hg : goodWord w = true) : w ∈ BW :=
  bw_of (List.mem_append_right _ (List.mem_append_left _ (List.mem_of_getElem? h))) hg
theorem bw_t2 {w : Cond} (i : Nat) (h : tables_1_2[i]? = some w) (hg : goodWord w = true) : w ∈ BW :=
  bw_of (List.mem_append_right _ (List.mem_append_right _ (List.mem_append_left _ (List.mem_of_getElem? h)))) hg
theorem bw_t3 {w : Cond} (i : Nat) (h : tables_1_3[i]? = some w) (hg : goodWord w = true) : w ∈ BW :=
  bw_of (List.mem_append_right _ (List.mem_append_right _ (List.mem_append_right _ (List.mem_append_left _ (List.mem_of_getElem? h))))) hg
theorem bw_t4 {w : Cond} (i : Nat) (h : tables_1_4[i]? = some w) (hg : goodWord w = true) : w ∈ BW :=
  bw_of (List.mem_append_right _ (List.mem_append_right _ (List.mem_append_right _ (List.mem_append_right _ (List.mem_of_getElem? h))))) hg
theorem bw_s {w : Cond} (h : w ∈ k2_sels lw_privs) (hg : goodWord w = true) : w ∈ BW := bw_of (List.mem_append_left _ h) hg
theorem bw_good {ws : List Cond} (h : ∀ w ∈ ws, w ∈ BW) : GoodIn BW ws := fun w hw =>
  ⟨h w hw, good_of_word (List.mem_filter.mp (h w hw)).2⟩
theorem bw_cons {c : Cond} (h : c ∈ BW) : ∀ w ∈ c :: BW, w ∈ BW := fun w hw => (List.mem_cons.mp hw).elim (fun e => e ▸ h) id
-- the state of a world: a row of numbers for each cell
abbrev St : Type := Nat → Nat → Int32
def up2 (M : St) (a j : Nat) (v : Int32) : St := fun b => if b = a then upd (M a) j v else M b
theorem up2_same (M : St) (a j : Nat) (v : Int32) : up2 M a j v a = upd (M a) j v := by simp [up2]
theorem up2_ne (M : St) {a b : Nat} (j : Nat) (v : Int32) (h : b ≠ a) : up2 M a j v b = M b := by simp [up2, h]
abbrev ix (i : Int32) : Nat := i.toNatClampNeg
def inb (i : Int32) (n : Nat) : Bool := decide (0 ≤ i.toInt ∧ i.toInt < n)
theorem inb_in {i : Int32} {n : Nat} (h : inb i n = true) : vp_in i n := vp_in_iff.mpr (of_decide_eq_true h)
theorem inb_of {i : Int32} {n : Nat} (h : vp_in i n) : inb i n = true := decide_eq_true (vp_in_iff.mp h)
theorem inb_lt {i : Int32} {n : Nat} (h : inb i n = true) : ix i < n := Nat.not_le.mp fun q => inb_in h (Or.inr q)
theorem inb_nI {k n : Nat} (h : k < n) (hn : n < 2 ^ 31) : inb (nI k) n = true := inb_of (vp_in_nI h hn)
-- the little words of which the pure functions are made
def gd {α : Type} (b : Bool) (x : Option α) : Option α := if b = true then x else none
def lt {α β : Type} (v : α) (f : α → Option β) : Option β := f v
def bn {α β : Type} (x : Option α) (f : α → Option β) : Option β := x.bind f
theorem gd_some {α : Type} {b : Bool} {x : Option α} {r : α} (h : gd b x = some r) : b = true ∧ x = some r := by
  unfold gd at h
  by_cases hb : b = true
  · rw [if_pos hb] at h; exact ⟨hb, h⟩
  · rw [if_neg hb] at h; cases h
theorem lt_some {α β : Type} {v : α} {f : α → Option β} {r : β} (h : lt v f = some r) : ∃ x, x = v ∧ f x = some r := ⟨v, rfl, h⟩
theorem bn_some {α β : Type} {x : Option α} {f : α → Option β} {r : β} (h : bn x f = some r) : ∃ y, x = some y ∧ f y = some r := by
  unfold bn at h
  cases x with
  | none => cases h
  | some y => exact ⟨y, rfl, h⟩
theorem it_t {α : Type} {c : Prop} [Decidable c] {a b r : α} (hc : c) (h : (if c then a else b) = r) : a = r := by rw [if_pos hc] at h; exact h
theorem it_f {α : Type} {c : Prop} [Decidable c] {a b r : α} (hc : ¬ c) (h : (if c then a else b) = r) : b = r := by rw [if_neg hc] at h; exact h
def isb (v : Int32) : Bool := v == 0 || v == 1
theorem isb_nar {v : Int32} (h : isb v = true) : narrow .boolean (.int v) = .int v := by
  simp only [isb, Bool.or_eq_true, beq_iff_eq] at h
  rcases h with h | h <;> subst h <;> rfl
theorem isb_vp {v : Int32} (h : isb v = true) : vp_nar .boolean v = v := by
  simp only [isb, Bool.or_eq_true, beq_iff_eq] at h
  rcases h with h | h <;> subst h <;> rfl
-- worlds by an index
def zwl (N : Nat) (q : Nat → Nat) (e : Nat → va_E) : va_W := (List.range N).map (fun k => (q k, e k))
theorem zwl_at {N : Nat} {q : Nat → Nat} {e : Nat → va_E} {k : Nat} {x : va_E} (h : k < N) (he : e k = x) : (zwl N q e)[k]? = some (q k, x) := by
  subst he; simp [zwl, h]
theorem zwl_inv {N : Nat} {q : Nat → Nat} {e : Nat → va_E} {k : Nat} {x : Nat × va_E} (h : (zwl N q e)[k]? = some x) : k < N ∧ x = (q k, e k) := by
  have hk : k < N := by
    have := (List.getElem?_eq_some_iff.mp h).1
    simpa [zwl] using this
  exact ⟨hk, Option.some.inj (h.symm.trans (zwl_at hk rfl))⟩
theorem zwl_set {N : Nat} {q : Nat → Nat} {e e' : Nat → va_E} {k : Nat} {x : va_E} (h1 : e' k = x) (h2 : ∀ j, j ≠ k → e' j = e j) : (zwl N q e).set k (q k, x) = zwl N q e' := by
  apply List.ext_getElem?
  intro j
  by_cases hj : j < N
  · by_cases hk : j = k
    · subst hk
      rw [List.getElem?_set_self (by simpa [zwl] using hj), zwl_at hj h1]
    · rw [List.getElem?_set_ne (Ne.symm hk), zwl_at hj rfl, zwl_at hj (h2 j hk)]
  · rw [List.getElem?_eq_none (by simpa [zwl] using Nat.not_lt.mp hj), List.getElem?_eq_none (by simpa [zwl] using Nat.not_lt.mp hj)]
def zQD (A : Nat → Prop) (N : Nat) (q : Nat → Nat) : Prop := (∀ i j, i < N → j < N → q i = q j → i = j) ∧ ∀ i, i < N → A (q i)
theorem zQD.D {A : Nat → Prop} {N : Nat} {q : Nat → Nat} (h : zQD A N q) (e : Nat → va_E) : va_D A (zwl N q e) := by
  refine ⟨fun i j x y hi hj hxy => ?_, fun k x hk => ?_⟩
  · obtain ⟨l1, e1⟩ := zwl_inv hi
    obtain ⟨l2, e2⟩ := zwl_inv hj
    exact h.1 i j l1 l2 (by rw [e1, e2] at hxy; exact hxy)
  · obtain ⟨l1, e1⟩ := zwl_inv hk
    rw [e1]; exact h.2 k l1
-- the world of a layout 'ent' (what a cell is, out of its row) at state M
abbrev zEnt : Type := Nat → (Nat → Int32) → va_E
def zP (D : va_G) (N : Nat) (q : Nat → Nat) (ent : zEnt) (M : St) (H : Heap) : Prop := va_P D vwCl (zwl N q (fun k => ent k (M k))) H
theorem zP.upd {D : va_G} {N : Nat} {q : Nat → Nat} {ent : zEnt} {M M1 : St} {H : Heap} {k j : Nat} {v : Int32} {x : va_E} (e : M1 = up2 M k j v) (hx : ent k (upd (M k) j v) = x) (h : va_P D vwCl ((zwl N q (fun i => ent i (M i))).set k (q k, x)) H) : zP D N q ent M1 H := by
  subst e
  unfold zP
  rw [← zwl_set (N := N) (q := q) (e := fun i => ent i (M i)) (e' := fun i => ent i (up2 M k j v i)) (k := k) (x := x) (by simp only [up2_same]; exact hx) (fun i hi => by simp only [up2_ne M j v hi])]
  exact h
/-- cell a is an int array of n places -/
def zAR (ent : zEnt) (cI : ClassId) (N a n : Nat) : Prop := a < N ∧ ∀ r, ent a r = .inl (cI, n, .inl r)
-- the classes' constants
def opNm : List String := ["NOTHING", "PUT_BYTE", "PUT_WORD", "LOCAL", "SET_LOCAL", "ADD_TO_LOCAL", "ADD", "SUBTRACT", "MULTIPLY", "DIVIDE", "REMAINDER", "NEGATE", "AND", "OR", "XOR", "SHIFT_LEFT", "SHIFT_RIGHT", "SHIFT_BITS_RIGHT", "DOUBLE", "DROP", "SWAP", "GO", "GO_IF", "GO_IF_COMPARED", "CALL_OWN", "END", "END_WITH", "CALL_OPEN", "NEW_SHORTS", "NEW_BYTES", "READ", "WRITE", "SIZE", "ROOT", "OWNER", "COPY", "OPEN", "CLOSE", "UNDO", "IS_OPEN", "COMMAND_BYTE", "COMMAND_LENGTH", "REPLY_BYTE", "THROW_VALUE", "HANDLE", "HANDLE_NOT"]
def opKind : List Int32 := [0, 0, 0, 0, 0, 0, 1, 1, 1, 1, 1, 1, 1, 1, 1, 1, 1, 1, 0, 0, 0, 2, 2, 2, 3, 3, 3, 3, 4, 4, 4, 4, 4, 4, 4, 4, 5, 5, 5, 5, 6, 6, 6, 7, 7, 7]
def opLength : List Int32 := [1, 2, 3, 2, 2, 3, 1, 1, 1, 1, 1, 1, 1, 1, 1, 1, 1, 1, 1, 1, 1, 2, 3, 3, 3, 1, 1, 3, 2, 2, 1, 1, 1, 1, 1, 1, 1, 1, 1, 1, 1, 1, 1, 1, 2, 1]
def opTakes : List Int32 := [0, 0, 0, 0, 1, 0, 2, 2, 2, 2, 2, 1, 2, 2, 2, 2, 2, 2, 1, 1, 2, 0, 1, 2, 0, 0, 1, 0, 0, 0, 2, 3, 1, 0, 1, 5, 0, 0, 0, 0, 1, 0, 1, 1, 0, 0]
def opPuts : List Int32 := [0, 1, 1, 1, 0, 0, 1, 1, 1, 1, 1, 1, 1, 1, 1, 1, 1, 1, 2, 0, 2, 0, 0, 0, 0, 0, 0, 0, 1, 1, 1, 0, 1, 1, 1, 0, 0, 0, 0, 1, 1, 1, 0, 0, 0, 0]
def opOrd : List Int32 := [0, 1, 2, 3, 4, 5, 6, 7, 8, 9, 10, 11, 12, 13, 14, 15, 16, 17, 18, 19, 20, 21, 22, 23, 24, 25, 26, 27, 28, 29, 30, 31, 32, 33, 34, 35, 36, 37, 38, 39, 40, 41, 42, 43, 44, 45]
def opSw : List Int32 := [0, 1, 2, 3, 4, 5, 9, 10, 11, 12, 13, 0, 14, 15, 16, 17, 18, 0, 6, 7, 8, 0, 0, 0, 0, 19, 20, 0, 21, 22, 23, 24, 25, 26, 27, 0, 28, 29, 0, 0, 30, 31, 0, 32, 33, 0]
def opF : List (String × String × String × List Int32) := [("CardMachine$Op", "kind", "I", opKind), ("CardMachine$Op", "length", "I", opLength), ("CardMachine$Op", "takes", "I", opTakes), ("CardMachine$Op", "puts", "I", opPuts), ("java/lang/Enum", "ordinal", "I", opOrd)]
/-- what is given of the start and stays: the constants, the array of them, the switches' table -/
def zSF (ad : Nat → Nat) (tO tS : Nat) (A : Nat → Prop) (U : State) (H : Heap) : Prop :=
  va_En "CardMachine$Op" "LCardMachine$Op;" opNm opF ad A U H ∧
  (va_Z "CardMachine" "OPS" "[LCardMachine$Op;" (.ref tO) A U H ∧ va_T (.object "CardMachine$Op") tO 46 (fun j => .ref (ad j)) A U H) ∧
  (va_Z "CardMachine$1" "$SwitchMap$CardMachine$Op" "[I" (.ref tS) A U H ∧ va_T .int tS 46 (fun j => .int (opSw.getD j 0)) A U H) ∧
  va_Nw (.fieldLinkNest "CardMachine$Processor" 112 "CardMachine" "OPS" "[LCardMachine$Op;" "CardMachine") U
theorem zSF.kept {ad : Nat → Nat} {tO tS : Nat} {A : Nat → Prop} {U : State} {H H1 : Heap} (h : zSF ad tO tS A U H) (hq : ∀ a : Nat, a < H.size → ¬ A a → H1[a]? = H[a]?) : zSF ad tO tS A U H1 :=
  ⟨h.1.kept hq, ⟨h.2.1.1.kept hq, h.2.1.2.kept hq⟩, ⟨h.2.2.1.1.kept hq, h.2.2.1.2.kept hq⟩, h.2.2.2⟩
theorem zSF.narrow {ad : Nat → Nat} {tO tS : Nat} {A B : Nat → Prop} {U : State} {H : Heap} (h : zSF ad tO tS A U H) (hAB : ∀ q, B q → A q) : zSF ad tO tS B U H :=
  ⟨h.1.narrow hAB, ⟨h.2.1.1.narrow hAB, h.2.1.2.narrow hAB⟩, ⟨h.2.2.1.1.narrow hAB, h.2.2.1.2.narrow hAB⟩, h.2.2.2⟩
theorem zSF.warm {ad : Nat → Nat} {tO tS : Nat} {A : Nat → Prop} {u U : State} {H : Heap} (hW : u.WarmedH U.vm) (h : zSF ad tO tS A u H) : zSF ad tO tS A U H :=
  ⟨va_En.moved hW.alike h.1, ⟨va_Z.moved hW.alike h.2.1.1, va_T.moved hW.alike h.2.1.2⟩, ⟨va_Z.moved hW.alike h.2.2.1.1, va_T.moved hW.alike h.2.2.1.2⟩, va_Nw.warmF hW h.2.2.2⟩
theorem zSF.call {ad : Nat → Nat} {tO tS : Nat} {A : Nat → Prop} {U : State} {g : JFrame} {mk : MethodId} {a : Array Value} (h : zSF ad tO tS A U U.heap) : zSF ad tO tS A (U.calling g mk a) (U.calling g mk a).heap :=
  ⟨va_En.moved (u := U) (U := U.calling g mk a) (Vm.Alike.refl U.vm) h.1, ⟨va_Z.moved (u := U) (U := U.calling g mk a) (Vm.Alike.refl U.vm) h.2.1.1, va_T.moved (u := U) (U := U.calling g mk a) (Vm.Alike.refl U.vm) h.2.1.2⟩, ⟨va_Z.moved (u := U) (U := U.calling g mk a) (Vm.Alike.refl U.vm) h.2.2.1.1, va_T.moved (u := U) (U := U.calling g mk a) (Vm.Alike.refl U.vm) h.2.2.1.2⟩, va_Nw.same rfl rfl h.2.2.2⟩
-- the classes of arrays
def zT (cI cZ cM cF : ClassId) : List (ClassId × FieldType) := [(cI, .int), (cZ, .boolean), (cM, .object "CardMachine$Method"), (cF, .object "CardMachine$Frame")]
-- a world's numbers that never change: class ids, the arrays' classes, the constants' addresses
abbrev zG : Type := va_G × (ClassId × ClassId × ClassId × ClassId) × ((Nat → Nat) × Nat × Nat)
def zKS (G : zG) (A : Nat → Prop) (U : State) : Prop := va_K G.1 vwCl (zT G.2.1.1 G.2.1.2.1 G.2.1.2.2.1 G.2.1.2.2.2) U ∧ zSF G.2.2.1 G.2.2.2.1 G.2.2.2.2 A U U.heap
-- the contracts of one form
def zPre (G : zG) (A : Nat → Prop) (P0 : Heap → Prop) : State → Prop := fun U => P0 U.heap ∧ zKS G A U
def zKI (l : Launch) (y : MethodName) (cc : ByteArray) (nL : Nat) (ret : Option FieldType) (fr lo : Nat) (G : zG) (A : Nat → Prop) (P0 : Heap → Prop) (as : List Value) (r : Int32) (P1 : Heap → Prop) : Prop :=
  Met l y (Cond.code y cc nL ret :: BW) { frames := fr, cells := 0, slots := 0, locals := lo } (va_Pc as (zPre G A P0)) (va_Qi (fun (r' : Int32) (_ : Unit) => r' = r) (fun _ U => P1 U.heap) A) 0 0 A
def zKV (l : Launch) (y : MethodName) (cc : ByteArray) (nL : Nat) (fr lo : Nat) (G : zG) (A : Nat → Prop) (P0 : Heap → Prop) (as : List Value) (P1 : Heap → Prop) : Prop :=
  Met l y (Cond.code y cc nL none :: BW) { frames := fr, cells := 0, slots := 0, locals := lo } (va_Pc as (zPre G A P0)) (va_Qv (fun (_ : Unit) => True) (fun _ U => P1 U.heap) A) 0 0 A
theorem zPre_blind (G : zG) (A : Nat → Prop) (P0 : Heap → Prop) (as : List Value) : FrameBlind (va_Pc as (zPre G A P0)) := fun a U g mk h =>
  ⟨h.1, h.2.1, va_K.moved (u := U) (U := U.calling g mk a) (Vm.Alike.refl U.vm) h.2.2.1, h.2.2.2.call⟩
/-- what a method's body stands on -/
def zFx (p : Program) (s : State) (m : MethodId) (args : Array Value) (meth : Method) (c : Code) (cc : ByteArray) (own : String) (nL : Nat) (ret : Option FieldType) (G : zG) (A : Nat → Prop) : Prop :=
  p.tables.exec = Jvm.exec ∧ c.code = cc ∧ c.maxLocals = nL ∧ s.vm.findClass own = some m.cls ∧ (∀ w ∈ BW, w.before args s = true) ∧ meth.locks = false ∧ meth.sig.returnType = ret ∧ zKS G A s
theorem zFx.ws {p : Program} {s : State} {m : MethodId} {args : Array Value} {meth : Method} {c : Code} {cc : ByteArray} {own : String} {nL : Nat} {ret : Option FieldType} {G : zG} {A : Nat → Prop} (F : zFx p s m args meth c cc own nL ret G A) {w : Cond} (h : w ∈ BW) : w.before args s = true := F.2.2.2.2.1 w h
theorem zFx.K {p : Program} {s : State} {m : MethodId} {args : Array Value} {meth : Method} {c : Code} {cc : ByteArray} {own : String} {nL : Nat} {ret : Option FieldType} {G : zG} {A : Nat → Prop} (F : zFx p s m args meth c cc own nL ret G A) : va_K G.1 vwCl (zT G.2.1.1 G.2.1.2.1 G.2.1.2.2.1 G.2.1.2.2.2) s := F.2.2.2.2.2.2.2.1
theorem zFx.S {p : Program} {s : State} {m : MethodId} {args : Array Value} {meth : Method} {c : Code} {cc : ByteArray} {own : String} {nL : Nat} {ret : Option FieldType} {G : zG} {A : Nat → Prop} (F : zFx p s m args meth c cc own nL ret G A) : zSF G.2.2.1 G.2.2.2.1 G.2.2.2.2 A s s.heap := F.2.2.2.2.2.2.2.2
theorem zKI_of {l : Launch} {y : MethodName} {cc : ByteArray} {nL : Nat} {ret : Option FieldType} {fr lo : Nat} {G : zG} {A : Nat → Prop} {P0 : Heap → Prop} {as : List Value} {r : Int32} {P1 : Heap → Prop} (hy : plainName y.cls = true) (hL : (lg_sl as).length ≤ nL)
    (body : ∀ (p : Program) (e : Env) (s : State) (m : MethodId) (args : Array Value) (below : List Frame) (meth : Method) (c : Code) (H : Heap) (ls : Array Slot), zFx p s m args meth c cc y.cls nL ret G A → H = s.heap → P0 H → lv_has ls nL (lv_args 0 as) →
      W p l e { frames := fr, cells := 0, slots := 0, locals := lo } s m args below meth c H [] 0 0 (MQ below (va_Qi (fun (r' : Int32) (_ : Unit) => r' = r) (fun _ U => P1 U.heap) A) args s 0 0 A) (F0 m 0 ls [])) : zKI l y cc nL ret fr lo G A P0 as r P1 := by
  refine Met.ofW (cc := cc) (maxL := nL) (ret := ret) hy rfl ?_
  intro p e s m args below meth c s₁ B hml hv
  obtain ⟨rfl, hP, hKS⟩ := hv
  have hts := atoms_spec (ws := Cond.code y cc nL ret :: BW) B.pre
  have hown : s.vm.findClass y.cls = some m.cls := findClass_of_methodNamed B.named
  have hl := lv_entry as (n := nL) hL
  rw [lg_entry_eq]
  exact body p e s m _ below meth c s.heap _ ⟨B.exec, B.bytes, hml, hown, fun w hw => hts w (List.mem_cons_of_mem _ hw), B.notSynchronized, B.returns, hKS⟩ rfl hP hl
theorem zKV_of {l : Launch} {y : MethodName} {cc : ByteArray} {nL : Nat} {fr lo : Nat} {G : zG} {A : Nat → Prop} {P0 : Heap → Prop} {as : List Value} {P1 : Heap → Prop} (hy : plainName y.cls = true) (hL : (lg_sl as).length ≤ nL)
    (body : ∀ (p : Program) (e : Env) (s : State) (m : MethodId) (args : Array Value) (below : List Frame) (meth : Method) (c : Code) (H : Heap) (ls : Array Slot), zFx p s m args meth c cc y.cls nL none G A → H = s.heap → P0 H → lv_has ls nL (lv_args 0 as) →
      W p l e { frames := fr, cells := 0, slots := 0, locals := lo } s m args below meth c H [] 0 0 (MQ below (va_Qv (fun (_ : Unit) => True) (fun _ U => P1 U.heap) A) args s 0 0 A) (F0 m 0 ls [])) : zKV l y cc nL fr lo G A P0 as P1 := by
  refine Met.ofW (cc := cc) (maxL := nL) (ret := none) hy rfl ?_
  intro p e s m args below meth c s₁ B hml hv
  obtain ⟨rfl, hP, hKS⟩ := hv
  have hts := atoms_spec (ws := Cond.code y cc nL none :: BW) B.pre
  have hown : s.vm.findClass y.cls = some m.cls := findClass_of_methodNamed B.named
  have hl := lv_entry as (n := nL) hL
  rw [lg_entry_eq]
  exact body p e s m _ below meth c s.heap _ ⟨B.exec, B.bytes, hml, hown, fun w hw => hts w (List.mem_cons_of_mem _ hw), B.notSynchronized, B.returns, hKS⟩ rfl hP hl
-- what the tables say of a call
def zWV (own : String) (idx : Nat) (C : String) (y : MethodName) (cc : ByteArray) (nL : Nat) (ret : Option FieldType) (n : Nat) : Prop :=
  (Cond.methodLink own idx y ∈ BW ∧ Cond.instanceMethod y ∈ BW ∧ Cond.selects C y y ∈ BW ∧ Cond.initialized C ∈ BW ∧ Cond.code y cc nL ret ∈ BW) ∧ (y.cls = C ∧ y.cls ≠ "java/lang/invoke/MethodHandle" ∧ y.cls ≠ "java/lang/invoke/VarHandle" ∧ (parseMethodDescriptor y.desc).map (fun d => d.parameters.length) = some n)
def zWS (own : String) (idx : Nat) (y : MethodName) (cc : ByteArray) (nL : Nat) (ret : Option FieldType) (n : Nat) : Prop :=
  (Cond.methodLink own idx y ∈ BW ∧ Cond.static y ∈ BW ∧ Cond.initialized y.cls ∈ BW ∧ Cond.code y cc nL ret ∈ BW) ∧ (y.cls ≠ "java/lang/invoke/MethodHandle" ∧ y.cls ≠ "java/lang/invoke/VarHandle" ∧ (parseMethodDescriptor y.desc).map (fun d => d.parameters.length) = some n)
theorem zWV.good {own : String} {idx : Nat} {C : String} {y : MethodName} {cc : ByteArray} {nL : Nat} {ret : Option FieldType} {n : Nat} (h : zWV own idx C y cc nL ret n) : GoodIn BW (wsV own idx C y (Cond.code y cc nL ret :: BW)) := by
  refine bw_good fun w hw => ?_
  obtain ⟨⟨h1, h2, h3, h4, h5⟩, -⟩ := h
  simp only [wsV, List.cons_append, List.nil_append, List.mem_cons] at hw
  rcases hw with e | e | e | e | e | e
  · rw [e]; exact h1
  · rw [e]; exact h2
  · rw [e]; exact h3
  · rw [e]; exact h4
  · rw [e]; exact h5
  · exact e
theorem zWS.good {own : String} {idx : Nat} {y : MethodName} {cc : ByteArray} {nL : Nat} {ret : Option FieldType} {n : Nat} (h : zWS own idx y cc nL ret n) : GoodIn BW (va_wsS own idx y (Cond.code y cc nL ret :: BW)) := by
  refine bw_good fun w hw => ?_
  obtain ⟨⟨h1, h2, h3, h5⟩, -⟩ := h
  simp only [va_wsS, List.cons_append, List.nil_append, List.mem_cons] at hw
  rcases hw with e | e | e | e | e
  · rw [e]; exact h1
  · rw [e]; exact h2
  · rw [e]; exact h3
  · rw [e]; exact h5
  · exact e
