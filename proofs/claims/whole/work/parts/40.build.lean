/-! CONSTRUCTION: worlds that grow, their rows and contracts -/
theorem zwl_push {N : Nat} (qq : Nat → Nat) (f : Nat → va_E) (a : Nat) (x : va_E) : zwl N qq f ++ [(a, x)] = zwl (N + 1) (va_up qq N a) (va_up f N x) := by
  unfold zwl
  rw [List.range_succ, List.map_append, List.map_cons, List.map_nil, va_up_self, va_up_self]
  congr 1
  apply List.map_congr_left
  intro k hk
  have : k ≠ N := by have := List.mem_range.mp hk; omega
  rw [va_up_ne _ _ this, va_up_ne _ _ this]
theorem zwl_up {N k : Nat} (qq : Nat → Nat) (f : Nat → va_E) (x : va_E) : (zwl N qq f).set k (qq k, x) = zwl N qq (va_up f k x) :=
  zwl_set (va_up_self _ _ _) (fun j hj => va_up_ne _ _ hj)
def CW (D : va_G) (A : Nat → Prop) (N : Nat) (qq : Nat → Nat) (f : Nat → va_E) (H : Heap) : Prop := va_P D vwCl (zwl N qq f) H ∧ va_D A (zwl N qq f)
theorem CW.congr {D : va_G} {A : Nat → Prop} {N : Nat} {qq qq' : Nat → Nat} {f f' : Nat → va_E} {H : Heap} (h : CW D A N qq f H) (hq : ∀ k, k < N → qq' k = qq k) (hf : ∀ k, k < N → f' k = f k) : CW D A N qq' f' H := by
  have e : zwl N qq' f' = zwl N qq f := by
    unfold zwl
    apply List.map_congr_left
    intro k hk
    rw [hq k (List.mem_range.mp hk), hf k (List.mem_range.mp hk)]
  unfold CW
  rw [e]
  exact h
def zNX (U : State) : Prop := va_Nw (.methodLinkNest "CardMachine$Store" 11 yX5_init "CardMachine") U ∧ va_Nw (.methodLinkNest "CardMachine$Processor" 30 yX1_init "CardMachine") U ∧ va_Nw (.methodLinkNest "CardMachine$Processor" 44 yX3_init "CardMachine") U ∧ va_Nw (.methodLinkNest "CardMachine$Processor" 45 yX2_init "CardMachine") U ∧ va_AO "CardMachine$Method" U ∧ va_AO "CardMachine$Frame" U
theorem zNX.warm {s U : State} (hW : s.WarmedH U.vm) (h : zNX s) : zNX U :=
  ⟨va_Nw.warmM hW h.1, va_Nw.warmM hW h.2.1, va_Nw.warmM hW h.2.2.1, va_Nw.warmM hW h.2.2.2.1, va_AO.moved hW.alike h.2.2.2.2.1, va_AO.moved hW.alike h.2.2.2.2.2⟩
theorem zNX.call {U : State} {g : JFrame} {mk : MethodId} {a : Array Value} (h : zNX U) : zNX (U.calling g mk a) :=
  ⟨va_Nw.same rfl rfl h.1, va_Nw.same rfl rfl h.2.1, va_Nw.same rfl rfl h.2.2.1, va_Nw.same rfl rfl h.2.2.2.1, va_AO.moved (u := U) (U := U.calling g mk a) (Vm.Alike.refl U.vm) h.2.2.2.2.1, va_AO.moved (u := U) (U := U.calling g mk a) (Vm.Alike.refl U.vm) h.2.2.2.2.2⟩
def zPreN (G : zG) (A : Nat → Prop) (P0 : Heap → Prop) : State → Prop := fun U => (P0 U.heap ∧ zKS G A U) ∧ zNX U ∧ ∀ a : Nat, U.heap.size ≤ a → A a
def zKN (l : Launch) (y : MethodName) (cc : ByteArray) (nL fr lo mc ms : Nat) (G : zG) (A : Nat → Prop) (P0 : Heap → Prop) (as : List Value) (P1 : Heap → Prop) : Prop :=
  Met l y (Cond.code y cc nL none :: BW) { frames := fr, cells := mc, slots := ms, locals := lo } (va_Pc as (zPreN G A P0)) (va_Qv (fun (_ : Unit) => True) (fun _ U => P1 U.heap) A) mc ms A
theorem zPreN_blind (G : zG) (A : Nat → Prop) (P0 : Heap → Prop) (as : List Value) : FrameBlind (va_Pc as (zPreN G A P0)) := fun a U g mk h =>
  ⟨h.1, ⟨h.2.1.1, va_K.moved (u := U) (U := U.calling g mk a) (Vm.Alike.refl U.vm) h.2.1.2.1, h.2.1.2.2.call⟩, h.2.2.1.call, h.2.2.2⟩
theorem zKN_of {l : Launch} {y : MethodName} {cc : ByteArray} {nL fr lo mc ms : Nat} {G : zG} {A : Nat → Prop} {P0 : Heap → Prop} {as : List Value} {P1 : Heap → Prop} (hy : plainName y.cls = true) (hL : (lg_sl as).length ≤ nL)
    (body : ∀ (p : Program) (e : Env) (s : State) (m : MethodId) (args : Array Value) (below : List Frame) (meth : Method) (c : Code) (H : Heap) (ls : Array Slot), zFx p s m args meth c cc y.cls nL none G A → meth.name = y.name → zNX s → (∀ a : Nat, s.heap.size ≤ a → A a) → H = s.heap → P0 H → lv_has ls nL (lv_args 0 as) →
      W p l e { frames := fr, cells := mc, slots := ms, locals := lo } s m args below meth c H [] 0 0 (MQ below (va_Qv (fun (_ : Unit) => True) (fun _ U => P1 U.heap) A) args s mc ms A) (F0 m 0 ls [])) : zKN l y cc nL fr lo mc ms G A P0 as P1 := by
  refine Met.ofW (cc := cc) (maxL := nL) (ret := none) hy rfl ?_
  intro p e s m args below meth c s₁ B hml hv
  obtain ⟨rfl, ⟨hP, hKS⟩, hX, hA⟩ := hv
  have hts := atoms_spec (ws := Cond.code y cc nL none :: BW) B.pre
  have hown : s.vm.findClass y.cls = some m.cls := findClass_of_methodNamed B.named
  have hl := lv_entry as (n := nL) hL
  rw [lg_entry_eq]
  exact body p e s m _ below meth c s.heap _ ⟨B.exec, B.bytes, hml, hown, fun w hw => hts w (List.mem_cons_of_mem _ hw), B.notSynchronized, B.returns, hKS⟩ (name_of_methodNamed B.named B.method).1 hX hA rfl hP hl
theorem w_ai : Cond.arrayClass .int ∈ BW := bw_t1 51 (by decide +kernel) (by decide +kernel)
theorem w_az : Cond.arrayClass .boolean ∈ BW := bw_t3 216 (by decide +kernel) (by decide +kernel)
theorem w_oi : Cond.instanceMethod objectInit ∈ BW := bw_t1 20 (by decide +kernel) (by decide +kernel)
theorem w_oc : Cond.code objectInit ⟨#[0xb1]⟩ 1 none ∈ BW := bw_t1 21 (by decide +kernel) (by decide +kernel)
theorem zKS.narrow {G : zG} {A B : Nat → Prop} {U : State} (h : zKS G A U) (hAB : ∀ a, B a → A a) : zKS G B U := ⟨h.1, h.2.narrow hAB⟩
section YR
variable {p : Program} {l : Launch} {e : Env} {R : Room} {s : State} {m : MethodId} {args : Array Value} {below : List Frame} {meth : Method} {c : Code} {H : Heap} {locs : List Loc} {cells slots : Nat} {Q : State → Prop}
variable {cc : ByteArray} {own : String} {nL : Nat} {ret : Option FieldType} {G : zG} {A : Nat → Prop} {pc : Nat} {ls : Array Slot} {rest : List Value}
variable {N : Nat} {qq : Nat → Nat} {f : Nat → va_E}
theorem y_vret {P1 : Heap → Prop} (F : zFx p s m args meth c cc own nL none G A) (hP : P1 H) (hS : va_S A s.heap H locs) (hdg : decode cc pc = .ok (.return_, 1)) :
    W p l e R s m args below meth c H locs cells slots (MQ below (va_Qv (fun (_ : Unit) => True) (fun _ U => P1 U.heap) A) args s cells slots A) (F0 m pc ls []) :=
  W.vret F.1 F.2.1 F.2.2.2.2.2.2.1 (fun t ht _ => ⟨⟨(), rfl, trivial, by show P1 t.heap; rw [ht]; exact hP⟩, hS.F ht⟩) hS.2.2 hdg (hlocks := F.2.2.2.2.2.1)
theorem y_newI {n : Nat} {x : Int32} (hx : x = nI n) (hn : n < 100000) (F : zFx p s m args meth c cc own nL ret G A) (hA : ∀ a : Nat, s.heap.size ≤ a → A a) (hC : CW G.1 A N qq f H) (hS : va_S A s.heap H locs) (hcells : cells + 1 ≤ R.cells) (hslots : slots + n ≤ R.slots) (hdg : decode cc pc = .ok (.newarray .int, 2))
    (kk : ∀ (a : Nat) (H1 : Heap), CW G.1 A (N + 1) (va_up qq N a) (va_up f N (.inl (G.2.1.1, n, .inl (fun _ => 0)))) H1 → va_S A s.heap H1 locs → W p l e R s m args below meth c H1 locs (cells + 1) (slots + n) Q (F0 m (pc + 2) ls (.ref a :: rest))) : W p l e R s m args below meth c H locs cells slots Q (F0 m pc ls (.int x :: rest)) := by
  subst hx
  refine va_newa (atype := .int) (ty := .int) (N' := n) (a0 := (n, .inl (fun _ => 0))) F.1 F.2.1 (F.ws w_ai) rfl F.K hC.1 hC.2 hS hA (fun cA => rfl) (nI_pos (by omega)) (nI_clamp (by omega)) (show n * 4 ≤ 536870912 by omega) hcells hslots hdg (fun a cA H1 hK hP hD hS1 => ?_)
  have h1 : va_RA s cA .int := (hK.2 4 _ rfl).2
  have h2 : va_RA s G.2.1.1 .int := (F.K.2 0 _ rfl).2
  have ec : cA = G.2.1.1 := Option.some.inj (Eq.trans (Eq.symm h1) h2)
  rw [ec, zwl_push] at hP hD
  exact kk a H1 ⟨hP, hD⟩ hS1
theorem y_newZ {n : Nat} {x : Int32} (hx : x = nI n) (hn : n < 100000) (F : zFx p s m args meth c cc own nL ret G A) (hA : ∀ a : Nat, s.heap.size ≤ a → A a) (hC : CW G.1 A N qq f H) (hS : va_S A s.heap H locs) (hcells : cells + 1 ≤ R.cells) (hslots : slots + n ≤ R.slots) (hdg : decode cc pc = .ok (.newarray .boolean, 2))
    (kk : ∀ (a : Nat) (H1 : Heap), CW G.1 A (N + 1) (va_up qq N a) (va_up f N (.inl (G.2.1.2.1, n, .inl (fun _ => 0)))) H1 → va_S A s.heap H1 locs → W p l e R s m args below meth c H1 locs (cells + 1) (slots + n) Q (F0 m (pc + 2) ls (.ref a :: rest))) : W p l e R s m args below meth c H locs cells slots Q (F0 m pc ls (.int x :: rest)) := by
  subst hx
  refine va_newa (atype := .boolean) (ty := .boolean) (N' := n) (a0 := (n, .inl (fun _ => 0))) F.1 F.2.1 (F.ws w_az) rfl F.K hC.1 hC.2 hS hA (fun cA => rfl) (nI_pos (by omega)) (nI_clamp (by omega)) (show n * 1 ≤ 536870912 by omega) hcells hslots hdg (fun a cA H1 hK hP hD hS1 => ?_)
  have h1 : va_RA s cA .boolean := (hK.2 4 _ rfl).2
  have h2 : va_RA s G.2.1.2.1 .boolean := (F.K.2 1 _ rfl).2
  have ec : cA = G.2.1.2.1 := Option.some.inj (Eq.trans (Eq.symm h1) h2)
  rw [ec, zwl_push] at hP hD
  exact kk a H1 ⟨hP, hD⟩ hS1
theorem y_newQ {C : String} {cX : ClassId} {t0 n index : Nat} {x : Int32} (ht : (zT G.2.1.1 G.2.1.2.1 G.2.1.2.2.1 G.2.1.2.2.2)[t0]? = some (cX, .object C)) (hcl : Cond.classLink own index C ∈ BW) (hover : va_AO C s) (hx : x = nI n) (hn : n < 100000) (F : zFx p s m args meth c cc own nL ret G A) (hA : ∀ a : Nat, s.heap.size ≤ a → A a) (hC : CW G.1 A N qq f H) (hS : va_S A s.heap H locs) (hcells : cells + 1 ≤ R.cells) (hslots : slots + n ≤ R.slots) (hdg : decode cc pc = .ok (.anewarray index, 3))
    (kk : ∀ (a : Nat) (H1 : Heap), CW G.1 A (N + 1) (va_up qq N a) (va_up f N (.inl (cX, n, .inr (.inr (.inr (.inr (fun _ => none))))))) H1 → va_S A s.heap H1 locs → W p l e R s m args below meth c H1 locs (cells + 1) (slots + n) Q (F0 m (pc + 3) ls (.ref a :: rest))) : W p l e R s m args below meth c H locs cells slots Q (F0 m pc ls (.int x :: rest)) := by
  subst hx
  refine va_newq (C := C) (N' := n) F.1 F.2.1 F.2.2.2.1 (F.ws hcl) hover F.K hC.1 hC.2 hS hA (nI_pos (by omega)) (nI_clamp (by omega)) (show n * 4 ≤ 536870912 by omega) hcells hslots hdg (fun a cA H1 hK hP hD hS1 => ?_)
  obtain ⟨-, -, -, -, -, h1⟩ := (hK.2 4 _ rfl).2
  obtain ⟨-, -, -, -, -, h2⟩ := (F.K.2 t0 _ ht).2
  have ec : cA = cX := Option.some.inj (Eq.trans (Eq.symm h1) h2)
  rw [ec, zwl_push] at hP hD
  exact kk a H1 ⟨hP, hD⟩ hS1
theorem y_newO {C : String} {T : u_T} {ci nf index : Nat} {fs : List Value} {ty0 : Nat → FieldType} (hin : ∀ w ∈ u_ws C T nf, w ∈ BW) (hty : ∀ k, k < nf → parseFieldDescriptor (T k).2.2.1 = some (ty0 k)) (hc : vwCl[ci]? = some (C, T, nf)) (hcl : Cond.classLink own index C ∈ BW) (hinst : Cond.instantiable C nf ∈ BW) (hini : Cond.initialized C ∈ BW) (hfs : ∀ j, j < nf → defaultValue (ty0 j) = vp_V fs j) (F : zFx p s m args meth c cc own nL ret G A) (hA : ∀ a : Nat, s.heap.size ≤ a → A a) (hC : CW G.1 A N qq f H) (hS : va_S A s.heap H locs) (hcells : cells + 1 ≤ R.cells) (hslots : slots + nf ≤ R.slots) (hdg : decode cc pc = .ok (.new index, 3))
    (kk : ∀ (a : Nat) (H1 : Heap), CW G.1 A (N + 1) (va_up qq N a) (va_up f N (.inr (ci, fs))) H1 → va_S A s.heap H1 locs → W p l e R s m args below meth c H1 locs (cells + 1) (slots + nf) Q (F0 m (pc + 3) ls (.ref a :: rest))) : W p l e R s m args below meth c H locs cells slots Q (F0 m pc ls rest) := by
  refine va_new F.1 F.2.1 F.2.2.2.2.1 hin ty0 hty F.2.2.2.1 (F.ws hcl) (F.ws hinst) (F.ws hini) F.K hC.1 hC.2 hS hA hc hfs hcells hslots hdg (fun a H1 hP hD hS1 => ?_)
  rw [zwl_push] at hP hD
  exact kk a H1 ⟨hP, hD⟩ hS1
theorem y_get {C ref : String} {T : u_T} {n ci k j index : Nat} {fs : List Value} {v : Value} {b : Nat} (hb : qq k = b) (hin : ∀ w ∈ u_ws C T n, w ∈ BW) (hc : vwCl[ci]? = some (C, T, n)) (hj : j < n) (hlink : Cond.fieldLink own index ref (T j).2.1 (T j).2.2.1 ∈ BW) (href : (T j).1 = ref)
    (F : zFx p s m args meth c cc own nL ret G A) (hC : CW G.1 A N qq f H) (hk : k < N) (he : f k = .inr (ci, fs)) (hv : fs[j]? = some v) (hdg : decode cc pc = .ok (.getfield index, 3))
    (kk : W p l e R s m args below meth c H locs cells slots Q (F0 m (pc + 3) ls (v :: rest))) : W p l e R s m args below meth c H locs cells slots Q (F0 m pc ls (.ref b :: rest)) := by
  subst href
  subst hb
  exact va_get F.1 F.2.1 F.2.2.2.2.1 hin F.2.2.2.1 F.K hC.1 k (zwl_at hk he) hc j hj (F.ws hlink) (fun _ h => h) hv hdg kk
theorem y_put {C ref : String} {T : u_T} {n ci k j index : Nat} {fs : List Value} {v : Value} {b : Nat} (hb : qq k = b) {ty0 : Nat → FieldType} {ty : FieldType} (hin : ∀ w ∈ u_ws C T n, w ∈ BW) (hty : ∀ k, k < n → parseFieldDescriptor (T k).2.2.1 = some (ty0 k)) (hnm : ∀ a, a < n → ∀ b, b < n → a ≠ b → (T a).2.1 ≠ (T b).2.1) (hc : vwCl[ci]? = some (C, T, n)) (hj : j < n) (hlink : Cond.fieldLink own index ref (T j).2.1 (T j).2.2.1 ∈ BW) (href : (T j).1 = ref) (hfin : (T j).2.2.2 = false) (hd : parseFieldDescriptor (T j).2.2.1 = some ty)
    (F : zFx p s m args meth c cc own nL ret G A) (hC : CW G.1 A N qq f H) (hS : va_S A s.heap H locs) (hk : k < N) (he : f k = .inr (ci, fs)) (hl : j < fs.length) (hn : narrow ty v = v) (hfit : fits ty v = true) (hdg : decode cc pc = .ok (.putfield index, 3))
    (kk : ∀ (H1 : Heap) (locs1 : List Loc), CW G.1 A N qq (va_up f k (.inr (ci, fs.set j v))) H1 → va_S A s.heap H1 locs1 → W p l e R s m args below meth c H1 locs1 cells slots Q (F0 m (pc + 3) ls rest)) : W p l e R s m args below meth c H locs cells slots Q (F0 m pc ls (v :: .ref b :: rest)) := by
  subst href
  subst hb
  refine va_put F.1 F.2.1 F.2.2.2.2.1 hin ty0 hty hnm F.2.2.2.1 F.K hC.1 hC.2 hS k (zwl_at hk he) hc j hj (F.ws hlink) (fun _ h => h) hfin hd hn hfit hl hdg (fun H1 locs1 h1 h2 h3 => ?_)
  rw [zwl_up] at h1 h2
  exact kk H1 locs1 ⟨h1, h2⟩ h3
theorem y_putF {C ref : String} {T : u_T} {n ci k j index : Nat} {fs : List Value} {v : Value} {b : Nat} (hb : qq k = b) {ty0 : Nat → FieldType} {ty : FieldType} (hin : ∀ w ∈ u_ws C T n, w ∈ BW) (hty : ∀ k, k < n → parseFieldDescriptor (T k).2.2.1 = some (ty0 k)) (hnm : ∀ a, a < n → ∀ b, b < n → a ≠ b → (T a).2.1 ≠ (T b).2.1) (hc : vwCl[ci]? = some (C, T, n)) (hj : j < n) (hlink : Cond.fieldLink own index ref (T j).2.1 (T j).2.2.1 ∈ BW) (href : (T j).1 = ref) (hfin : (T j).2.2.2 = true) (hdecl : (T j).1 = own) (hd : parseFieldDescriptor (T j).2.2.1 = some ty)
    (hin2 : meth.name = "<init>") (F : zFx p s m args meth c cc own nL ret G A) (hC : CW G.1 A N qq f H) (hS : va_S A s.heap H locs) (hk : k < N) (he : f k = .inr (ci, fs)) (hl : j < fs.length) (hn : narrow ty v = v) (hfit : fits ty v = true) (hdg : decode cc pc = .ok (.putfield index, 3))
    (kk : ∀ (H1 : Heap) (locs1 : List Loc), CW G.1 A N qq (va_up f k (.inr (ci, fs.set j v))) H1 → va_S A s.heap H1 locs1 → W p l e R s m args below meth c H1 locs1 cells slots Q (F0 m (pc + 3) ls rest)) : W p l e R s m args below meth c H locs cells slots Q (F0 m pc ls (v :: .ref b :: rest)) := by
  subst href
  subst hb
  refine va_putF F.1 F.2.1 F.2.2.2.2.1 hin ty0 hty hnm F.2.2.2.1 F.K hC.1 hC.2 hS k (zwl_at hk he) hc j hj (F.ws hlink) (fun _ h => h) hfin hin2 hdecl hd hn hfit hl hdg (fun H1 locs1 h1 h2 h3 => ?_)
  rw [zwl_up] at h1 h2
  exact kk H1 locs1 ⟨h1, h2⟩ h3
theorem y_aast {r : vw_C} {cX : ClassId} {k kv t0 n ci : Nat} {vs : List Value} {g : Nat → Option Nat} {i : Int32} {b bv : Nat} (hb : qq k = b) (hbv : qq kv = bv) (ht : (zT G.2.1.1 G.2.1.2.1 G.2.1.2.2.1 G.2.1.2.2.2)[t0]? = some (cX, .object r.1)) (hc : vwCl[ci]? = some r) (F : zFx p s m args meth c cc own nL ret G A) (hC : CW G.1 A N qq f H) (hS : va_S A s.heap H locs) (hk : k < N) (he : f k = .inl (cX, n, .inr (.inr (.inr (.inr g))))) (hkv : kv < N) (hv : f kv = .inr (ci, vs)) (hi : inb i n = true) (hdg : decode cc pc = .ok (.aastore, 1))
    (kk : ∀ (H1 : Heap) (locs1 : List Loc), CW G.1 A N qq (va_up f k (.inl (cX, n, .inr (.inr (.inr (.inr (va_up g (ix i) (some bv))))))) ) H1 → va_S A s.heap H1 locs1 → W p l e R s m args below meth c H1 locs1 cells slots Q (F0 m (pc + 1) ls rest)) : W p l e R s m args below meth c H locs cells slots Q (F0 m pc ls (.ref bv :: .int i :: .ref b :: rest)) := by
  subst hb
  subst hbv
  refine va_astq F.1 F.2.1 F.K hC.1 hC.2 hS k t0 kv ci (zwl_at hk he) ht (zwl_at hkv hv) hc (inb_in hi) hdg (fun H1 locs1 h1 h2 h3 => ?_)
  rw [zwl_up] at h1 h2
  exact kk H1 locs1 ⟨h1, h2⟩ h3
theorem y_objInit {idx a : Nat} (hl : Cond.methodLink own idx objectInit ∈ BW) (F : zFx p s m args meth c cc own nL ret G A) (hls : ls.size = nL) (hfr : 1 ≤ R.frames) (hlo : 2 * (F0 m pc ls (.ref a :: rest)).monitorRoom + (rest.map fun v => v.category).sum + 12 ≤ R.locals) (hdg : decode cc pc = .ok (.invokespecial idx, 3))
    (kk : W p l e R s m args below meth c H locs cells slots Q (F0 m (pc + 3) ls rest)) : W p l e R s m args below meth c H locs cells slots Q (F0 m pc ls (.ref a :: rest)) :=
  W.objInit F.1 F.2.1 F.2.2.2.1 (F.ws hl) (F.ws w_oi) (F.ws w_oc) rfl (by rw [F.2.2.1]; exact hls) rfl hdg hfr hlo (W.eq (g2 := F0 m (pc + 3) ls rest) rfl kk)
theorem y_ctor {y : MethodName} {cc' : ByteArray} {nL' idx fr lo mc ms b : Nat} {P0 P1 : Heap → Prop} {A1 : Nat → Prop} (hl : Cond.methodLink own idx y ∈ BW) (hi : Cond.instanceMethod y ∈ BW) (hini : Cond.initialized y.cls ∈ BW) (hcd : Cond.code y cc' nL' none ∈ BW) (hy : y.name = "<init>") (hd : y.cls ≠ "java/lang/invoke/MethodHandle" ∧ y.cls ≠ "java/lang/invoke/VarHandle" ∧ (parseMethodDescriptor y.desc).map (fun d => d.parameters.length) = some 0) (F : zFx p s m args meth c cc own nL ret G A) (X : zNX s) (hS : va_S A s.heap H locs) (hAA : ∀ a, A1 a → A a) (hA1 : ∀ a : Nat, H.size ≤ a → A1 a) (hM : zKN l y cc' nL' fr lo mc ms G A1 P0 [.ref b] P1) (h0 : P0 H)
    (hls : ls.size = nL) (hR : fr + 1 ≤ R.frames ∧ 8 + (nL' + 11) + lo ≤ R.locals) (hcs : cells + mc ≤ R.cells ∧ slots + ms ≤ R.slots) (hcat : (rest.map fun v => v.category).sum ≤ 8) (hdg : decode cc pc = .ok (.invokespecial idx, 3))
    (kk : ∀ (H1 : Heap) (locs1 : List Loc), P1 H1 → va_S A s.heap H1 locs1 → (∀ a : Nat, a < H.size → ¬ A1 a → H1[a]? = H[a]?) → H.size ≤ H1.size → W p l e R s m args below meth c H1 locs1 (cells + mc) (slots + ms) Q (F0 m (pc + 3) ls rest)) : W p l e R s m args below meth c H locs cells slots Q (F0 m pc ls (.ref b :: rest)) := by
  refine va_callv (va_runI (As := []) (rest := rest) (b := b) ⟨F.1, F.2.1, F.2.2.1, F.2.2.2.1, F.2.2.2.2.1⟩ hM (cwI 0 F.2.2.2.2.1 (bw_good (bw_cons hcd)) rfl rfl rfl (F.ws hini) (F.ws hl) (F.ws hi) hy hd hR) ⟨zPreN_blind G A1 P0 _, fun U hU hW => ⟨rfl, ⟨by rw [hU]; exact h0, (F.2.2.2.2.2.2.2.go hS.2.1 hU hW).narrow hAA⟩, X.warm hW, fun a ha => hA1 a (by rw [hU] at ha; exact ha)⟩⟩ rfl rfl hls rfl (lv_room hcat) hdg hcs) hS (fun a _ h => hAA a h) hAA (fun u t H1 locs1 ht hvm hw hB hz hk hS1 => ?_)
  subst ht
  exact kk _ locs1 hB hS1 hk hz
theorem y_ctorN {y : MethodName} {host : String} {cc' : ByteArray} {nL' idx fr lo mc ms b : Nat} {P0 P1 : Heap → Prop} {A1 : Nat → Prop} (hl : va_Nw (.methodLinkNest own idx y host) s) (hi : Cond.instanceMethod y ∈ BW) (hini : Cond.initialized y.cls ∈ BW) (hcd : Cond.code y cc' nL' none ∈ BW) (hy : y.name = "<init>") (hd : y.cls ≠ "java/lang/invoke/MethodHandle" ∧ y.cls ≠ "java/lang/invoke/VarHandle" ∧ (parseMethodDescriptor y.desc).map (fun d => d.parameters.length) = some 0) (F : zFx p s m args meth c cc own nL ret G A) (X : zNX s) (hS : va_S A s.heap H locs) (hAA : ∀ a, A1 a → A a) (hA1 : ∀ a : Nat, H.size ≤ a → A1 a) (hM : zKN l y cc' nL' fr lo mc ms G A1 P0 [.ref b] P1) (h0 : P0 H)
    (hls : ls.size = nL) (hR : fr + 1 ≤ R.frames ∧ 8 + (nL' + 11) + lo ≤ R.locals) (hcs : cells + mc ≤ R.cells ∧ slots + ms ≤ R.slots) (hcat : (rest.map fun v => v.category).sum ≤ 8) (hdg : decode cc pc = .ok (.invokespecial idx, 3))
    (kk : ∀ (H1 : Heap) (locs1 : List Loc), P1 H1 → va_S A s.heap H1 locs1 → (∀ a : Nat, a < H.size → ¬ A1 a → H1[a]? = H[a]?) → H.size ≤ H1.size → W p l e R s m args below meth c H1 locs1 (cells + mc) (slots + ms) Q (F0 m (pc + 3) ls rest)) : W p l e R s m args below meth c H locs cells slots Q (F0 m pc ls (.ref b :: rest)) := by
  refine va_callv (va_runIN (As := []) (rest := rest) (b := b) ⟨F.1, F.2.1, F.2.2.1, F.2.2.2.1, F.2.2.2.2.1⟩ hM ⟨va_cnB 0 F.2.2.2.2.1 (bw_good (bw_cons hcd)) rfl rfl rfl hl (F.ws hini) hd hR, hy, F.ws hi⟩ ⟨zPreN_blind G A1 P0 _, fun U hU hW => ⟨rfl, ⟨by rw [hU]; exact h0, (F.2.2.2.2.2.2.2.go hS.2.1 hU hW).narrow hAA⟩, X.warm hW, fun a ha => hA1 a (by rw [hU] at ha; exact ha)⟩⟩ rfl rfl hls rfl (lv_room hcat) hdg hcs) hS (fun a _ h => hAA a h) hAA (fun u t H1 locs1 ht hvm hw hB hz hk hS1 => ?_)
  subst ht
  exact kk _ locs1 hB hS1 hk hz
theorem y_callI {C : String} {y : MethodName} {cc' : ByteArray} {nL' n idx fr lo b : Nat} {ret' : Option FieldType} {P0 P1 : Heap → Prop} {as st : List Value} {r : Int32} {A1 : Nat → Prop} (wv : zWV own idx C y cc' nL' ret' n) (F : zFx p s m args meth c cc own nL ret G A) (hS : va_S A s.heap H locs) (hAA : ∀ a, A1 a → A a) (hM : zKI l y cc' nL' ret' fr lo G A1 P0 (.ref b :: as) r P1) (h0 : P0 H)
    (hrc : ∃ cell : Cell, H[b]? = some cell ∧ cell.vm.isStatics = false ∧ s.vm.findClass C = some cell.cls) (hst : as.reverse ++ .ref b :: rest = st) (hls : ls.size = nL) (hn : as.length = n) (hR : fr + 1 ≤ R.frames ∧ 8 + (nL' + 11) + lo ≤ R.locals) (hcs : cells ≤ R.cells ∧ slots ≤ R.slots) (hcat : (rest.map fun v => v.category).sum ≤ 8) (hdg : decode cc pc = .ok (.invokevirtual idx, 3))
    (kk : ∀ (H1 : Heap) (locs1 : List Loc), P1 H1 → va_S A s.heap H1 locs1 → (∀ a : Nat, a < H.size → ¬ A1 a → H1[a]? = H[a]?) → H.size ≤ H1.size → W p l e R s m args below meth c H1 locs1 cells slots Q (F0 m (pc + 3) ls (.int r :: rest))) : W p l e R s m args below meth c H locs cells slots Q (F0 m pc ls st) := by
  subst hst
  refine va_calli (va_runV (As := as) (rest := rest) (b := b) ⟨F.1, F.2.1, F.2.2.1, F.2.2.2.1, F.2.2.2.2.1⟩ hM (cwV n F.2.2.2.2.1 wv.good rfl rfl rfl wv.2 hR) ⟨zPre_blind G A1 P0 _, hrc, fun U hU hW => ⟨rfl, by rw [hU]; exact h0, (F.2.2.2.2.2.2.2.go hS.2.1 hU hW).narrow hAA⟩⟩ rfl hn hls rfl (lv_room hcat) hdg hcs) hS (fun a _ h => hAA a h) hAA (fun r' u t H1 locs1 ht hvm hw hB hz hk hS1 => ?_)
  subst hw
  subst ht
  exact kk _ locs1 hB hS1 hk hz
theorem y_callV {C : String} {y : MethodName} {cc' : ByteArray} {nL' n idx fr lo b : Nat} {P0 P1 : Heap → Prop} {as st : List Value} {A1 : Nat → Prop} (wv : zWV own idx C y cc' nL' none n) (F : zFx p s m args meth c cc own nL ret G A) (hS : va_S A s.heap H locs) (hAA : ∀ a, A1 a → A a) (hM : zKV l y cc' nL' fr lo G A1 P0 (.ref b :: as) P1) (h0 : P0 H)
    (hrc : ∃ cell : Cell, H[b]? = some cell ∧ cell.vm.isStatics = false ∧ s.vm.findClass C = some cell.cls) (hst : as.reverse ++ .ref b :: rest = st) (hls : ls.size = nL) (hn : as.length = n) (hR : fr + 1 ≤ R.frames ∧ 8 + (nL' + 11) + lo ≤ R.locals) (hcs : cells ≤ R.cells ∧ slots ≤ R.slots) (hcat : (rest.map fun v => v.category).sum ≤ 8) (hdg : decode cc pc = .ok (.invokevirtual idx, 3))
    (kk : ∀ (H1 : Heap) (locs1 : List Loc), P1 H1 → va_S A s.heap H1 locs1 → (∀ a : Nat, a < H.size → ¬ A1 a → H1[a]? = H[a]?) → H.size ≤ H1.size → W p l e R s m args below meth c H1 locs1 cells slots Q (F0 m (pc + 3) ls rest)) : W p l e R s m args below meth c H locs cells slots Q (F0 m pc ls st) := by
  subst hst
  refine va_callv (va_runV (As := as) (rest := rest) (b := b) ⟨F.1, F.2.1, F.2.2.1, F.2.2.2.1, F.2.2.2.2.1⟩ hM (cwV n F.2.2.2.2.1 wv.good rfl rfl rfl wv.2 hR) ⟨zPre_blind G A1 P0 _, hrc, fun U hU hW => ⟨rfl, by rw [hU]; exact h0, (F.2.2.2.2.2.2.2.go hS.2.1 hU hW).narrow hAA⟩⟩ rfl hn hls rfl (lv_room hcat) hdg hcs) hS (fun a _ h => hAA a h) hAA (fun u t H1 locs1 ht hvm hw hB hz hk hS1 => ?_)
  subst ht
  exact kk _ locs1 hB hS1 hk hz
end YR
