theorem zKI_ofF {l : Launch} {y : MethodName} {cc : ByteArray} {nL : Nat} {ret : Option FieldType} {fr lo : Nat} {G : zG} {A : Nat → Prop} {P0 : Heap → Prop} {as : List Value} {r : Int32} {P1 : Heap → Prop} (hy : plainFor y = true) (hL : (lg_sl as).length ≤ nL)
    (body : ∀ (p : Program) (e : Env) (s : State) (m : MethodId) (args : Array Value) (below : List Frame) (meth : Method) (c : Code) (H : Heap) (ls : Array Slot), zFx p s m args meth c cc y.cls nL ret G A → H = s.heap → P0 H → lv_has ls nL (lv_args 0 as) →
      W p l e { frames := fr, cells := 0, slots := 0, locals := lo } s m args below meth c H [] 0 0 (MQ below (va_Qi (fun (r' : Int32) (_ : Unit) => r' = r) (fun _ U => P1 U.heap) A) args s 0 0 A) (F0 m 0 ls [])) : zKI l y cc nL ret fr lo G A P0 as r P1 := by
  refine va_MetF (cc := cc) (maxL := nL) (ret := ret) hy rfl ?_
  intro p e s m args below meth c s₁ B hml hv
  obtain ⟨rfl, hP, hKS⟩ := hv
  have hts := atoms_spec (ws := Cond.code y cc nL ret :: BW) B.pre
  have hown : s.vm.findClass y.cls = some m.cls := findClass_of_methodNamed B.named
  have hl := lv_entry as (n := nL) hL
  rw [lg_entry_eq]
  exact body p e s m _ below meth c s.heap _ ⟨B.exec, B.bytes, hml, hown, fun w hw => hts w (List.mem_cons_of_mem _ hw), B.notSynchronized, B.returns, hKS⟩ rfl hP hl
/-! ROWS of the one form. -/
section ZR
variable {p : Program} {l : Launch} {e : Env} {R : Room} {s : State} {m : MethodId} {args : Array Value} {below : List Frame} {meth : Method} {c : Code} {H : Heap} {locs : List Loc} {cells slots : Nat} {Q : State → Prop}
variable {cc : ByteArray} {own : String} {nL : Nat} {ret : Option FieldType} {G : zG} {A : Nat → Prop} {pc : Nat} {ls : Array Slot} {rest : List Value}
variable {N : Nat} {q : Nat → Nat} {ent : zEnt} {M M1 : St}
-- the ends
theorem x_iret {v r : Int32} {P1 : Heap → Prop} {ty : FieldType} (F : zFx p s m args meth c cc own nL (some ty) G A) (hn : narrow ty (.int v) = .int v) (hv : v = r) (hP : P1 H) (hS : va_S A s.heap H locs) (hdg : decode cc pc = .ok (.ireturn, 1)) :
    W p l e R s m args below meth c H locs 0 0 (MQ below (va_Qi (fun (r' : Int32) (_ : Unit) => r' = r) (fun _ U => P1 U.heap) A) args s 0 0 A) (F0 m pc ls [.int v]) :=
  W.zret F.1 F.2.1 F.2.2.2.2.2.2.1 hn (fun t ht _ => ⟨⟨v, (), rfl, hv, by show P1 t.heap; rw [ht]; exact hP⟩, hS.F ht⟩) hS.2.2 hdg (hlocks := F.2.2.2.2.2.1)
theorem x_vret {P1 : Heap → Prop} (F : zFx p s m args meth c cc own nL none G A) (hP : P1 H) (hS : va_S A s.heap H locs) (hdg : decode cc pc = .ok (.return_, 1)) :
    W p l e R s m args below meth c H locs 0 0 (MQ below (va_Qv (fun (_ : Unit) => True) (fun _ U => P1 U.heap) A) args s 0 0 A) (F0 m pc ls []) :=
  W.vret F.1 F.2.1 F.2.2.2.2.2.2.1 (fun t ht _ => ⟨⟨(), rfl, trivial, by show P1 t.heap; rw [ht]; exact hP⟩, hS.F ht⟩) hS.2.2 hdg (hlocks := F.2.2.2.2.2.1)
-- reading and writing int arrays
theorem x_iald {a n : Nat} {i : Int32} (F : zFx p s m args meth c cc own nL ret G A) (hP : zP G.1 N q ent M H) (ha : zAR ent G.2.1.1 N a n) (hi : inb i n = true) (hdg : decode cc pc = .ok (.iaload, 1))
    (kk : W p l e R s m args below meth c H locs cells slots Q (F0 m (pc + 1) ls (.int (M a (ix i)) :: rest))) : W p l e R s m args below meth c H locs cells slots Q (F0 m pc ls (.int i :: .ref (q a) :: rest)) :=
  va_iald F.1 F.2.1 F.K hP a 0 (zwl_at ha.1 (ha.2 _)) rfl (inb_in hi) hdg kk
theorem x_iast {a n : Nat} {i x : Int32} (F : zFx p s m args meth c cc own nL ret G A) (hq : zQD A N q) (hP : zP G.1 N q ent M H) (hS : va_S A s.heap H locs) (ha : zAR ent G.2.1.1 N a n) (hi : inb i n = true) (he : M1 = up2 M a (ix i) x) (hdg : decode cc pc = .ok (.iastore, 1))
    (kk : ∀ (H1 : Heap) (locs1 : List Loc), zP G.1 N q ent M1 H1 → va_S A s.heap H1 locs1 → W p l e R s m args below meth c H1 locs1 cells slots Q (F0 m (pc + 1) ls rest)) : W p l e R s m args below meth c H locs cells slots Q (F0 m pc ls (.int x :: .int i :: .ref (q a) :: rest)) :=
  va_iast F.1 F.2.1 F.K hP (hq.D _) hS a 0 (zwl_at ha.1 (ha.2 _)) rfl (inb_in hi) hdg (fun H1 locs1 h1 _ h3 => kk H1 locs1 (zP.upd he (ha.2 _) h1) h3)
theorem x_alen {a n : Nat} {v : Int32} (F : zFx p s m args meth c cc own nL ret G A) (hP : zP G.1 N q ent M H) (ha : zAR ent G.2.1.1 N a n) (hv : nI n = v) (hdg : decode cc pc = .ok (.arraylength, 1))
    (kk : W p l e R s m args below meth c H locs cells slots Q (F0 m (pc + 1) ls (.int v :: rest))) : W p l e R s m args below meth c H locs cells slots Q (F0 m pc ls (.ref (q a) :: rest)) :=
  va_alen F.1 F.2.1 F.K hP a 0 (zwl_at ha.1 (ha.2 (M a))) (ty := .int) rfl hv hdg kk
-- boolean arrays
def zAZ (ent : zEnt) (cZ : ClassId) (N a n : Nat) : Prop := a < N ∧ ∀ r, ent a r = .inl (cZ, n, .inl r)
theorem x_zald {a n : Nat} {i : Int32} (F : zFx p s m args meth c cc own nL ret G A) (hP : zP G.1 N q ent M H) (ha : zAZ ent G.2.1.2.1 N a n) (hi : inb i n = true) (hdg : decode cc pc = .ok (.baload, 1))
    (kk : W p l e R s m args below meth c H locs cells slots Q (F0 m (pc + 1) ls (.int (M a (ix i)) :: rest))) : W p l e R s m args below meth c H locs cells slots Q (F0 m pc ls (.int i :: .ref (q a) :: rest)) :=
  va_zald F.1 F.2.1 F.K hP a 1 (zwl_at ha.1 (ha.2 _)) rfl (inb_in hi) hdg kk
theorem x_zast {a n : Nat} {i x : Int32} (F : zFx p s m args meth c cc own nL ret G A) (hq : zQD A N q) (hP : zP G.1 N q ent M H) (hS : va_S A s.heap H locs) (ha : zAZ ent G.2.1.2.1 N a n) (hi : inb i n = true) (hx : isb x = true) (he : M1 = up2 M a (ix i) x) (hdg : decode cc pc = .ok (.bastore, 1))
    (kk : ∀ (H1 : Heap) (locs1 : List Loc), zP G.1 N q ent M1 H1 → va_S A s.heap H1 locs1 → W p l e R s m args below meth c H1 locs1 cells slots Q (F0 m (pc + 1) ls rest)) : W p l e R s m args below meth c H locs cells slots Q (F0 m pc ls (.int x :: .int i :: .ref (q a) :: rest)) :=
  va_zast F.1 F.2.1 F.K hP (hq.D _) hS a 1 (zwl_at ha.1 (ha.2 _)) rfl (inb_in hi) hdg (fun H1 locs1 h1 _ h3 => kk H1 locs1 (zP.upd (x := .inl (G.2.1.2.1, n, .inl (upd (M a) (ix i) (vp_nar .boolean x)))) he (by rw [isb_vp hx]; exact ha.2 _) h1) h3)
-- a row of references that never changes: place i of it is cell b + i
def zAQ (ent : zEnt) (cA : ClassId) (N a n b : Nat) (q : Nat → Nat) : Prop := a < N ∧ ∀ r, ent a r = .inl (cA, n, .inr (.inr (.inr (.inr (fun i => some (q (b + i)))))))
theorem x_aaldM {a n b k : Nat} {i : Int32} (hx : ix i = k) (F : zFx p s m args meth c cc own nL ret G A) (hP : zP G.1 N q ent M H) (ha : zAQ ent G.2.1.2.2.1 N a n b q) (hi : inb i n = true) (hdg : decode cc pc = .ok (.aaload, 1))
    (kk : W p l e R s m args below meth c H locs cells slots Q (F0 m (pc + 1) ls (.ref (q (b + k)) :: rest))) : W p l e R s m args below meth c H locs cells slots Q (F0 m pc ls (.int i :: .ref (q a) :: rest)) :=
  va_aldq F.1 F.2.1 F.K hP a 2 (C := "CardMachine$Method") (zwl_at ha.1 (ha.2 (M a))) rfl (inb_in hi) hdg (by subst hx; exact kk)
theorem x_aaldF {a n b k : Nat} {i : Int32} (hx : ix i = k) (F : zFx p s m args meth c cc own nL ret G A) (hP : zP G.1 N q ent M H) (ha : zAQ ent G.2.1.2.2.2 N a n b q) (hi : inb i n = true) (hdg : decode cc pc = .ok (.aaload, 1))
    (kk : W p l e R s m args below meth c H locs cells slots Q (F0 m (pc + 1) ls (.ref (q (b + k)) :: rest))) : W p l e R s m args below meth c H locs cells slots Q (F0 m pc ls (.int i :: .ref (q a) :: rest)) :=
  va_aldq F.1 F.2.1 F.K hP a 3 (C := "CardMachine$Frame") (zwl_at ha.1 (ha.2 (M a))) rfl (inb_in hi) hdg (by subst hx; exact kk)
-- fields: cell k is an object of class ci with fields fs
theorem x_getf {C ref : String} {T : u_T} {n ci k j index : Nat} {fs : List Value} {v : Value} (hin : ∀ w ∈ u_ws C T n, w ∈ BW) (hc : vwCl[ci]? = some (C, T, n)) (hj : j < n) (hlink : Cond.fieldLink own index ref (T j).2.1 (T j).2.2.1 ∈ BW) (href : (T j).1 = ref)
    (F : zFx p s m args meth c cc own nL ret G A) (hP : zP G.1 N q ent M H) (hk : k < N) (he : ent k (M k) = .inr (ci, fs)) (hv : fs[j]? = some v) (hdg : decode cc pc = .ok (.getfield index, 3))
    (kk : W p l e R s m args below meth c H locs cells slots Q (F0 m (pc + 3) ls (v :: rest))) : W p l e R s m args below meth c H locs cells slots Q (F0 m pc ls (.ref (q k) :: rest)) := by
  subst href
  exact va_get F.1 F.2.1 F.2.2.2.2.1 hin F.2.2.2.1 F.K hP k (zwl_at hk he) hc j hj (F.ws hlink) (fun _ h => h) hv hdg kk
theorem x_putf {C ref : String} {T : u_T} {n ci k j i index : Nat} {fs fs1 : List Value} {v : Value} {x : Int32} {ty0 : Nat → FieldType} {ty : FieldType} (hin : ∀ w ∈ u_ws C T n, w ∈ BW) (hty : ∀ k, k < n → parseFieldDescriptor (T k).2.2.1 = some (ty0 k)) (hnm : ∀ a, a < n → ∀ b, b < n → a ≠ b → (T a).2.1 ≠ (T b).2.1) (hc : vwCl[ci]? = some (C, T, n)) (hj : j < n) (hlink : Cond.fieldLink own index ref (T j).2.1 (T j).2.2.1 ∈ BW) (href : (T j).1 = ref) (hfin : (T j).2.2.2 = false) (hd : parseFieldDescriptor (T j).2.2.1 = some ty)
    (F : zFx p s m args meth c cc own nL ret G A) (hq : zQD A N q) (hP : zP G.1 N q ent M H) (hS : va_S A s.heap H locs) (hk : k < N) (he : ent k (M k) = .inr (ci, fs)) (hl : j < fs.length) (he1 : ent k (upd (M k) i x) = .inr (ci, fs1)) (hs : fs.set j v = fs1) (hn : narrow ty v = v) (hfit : fits ty v = true) (hM : M1 = up2 M k i x) (hdg : decode cc pc = .ok (.putfield index, 3))
    (kk : ∀ (H1 : Heap) (locs1 : List Loc), zP G.1 N q ent M1 H1 → va_S A s.heap H1 locs1 → W p l e R s m args below meth c H1 locs1 cells slots Q (F0 m (pc + 3) ls rest)) : W p l e R s m args below meth c H locs cells slots Q (F0 m pc ls (v :: .ref (q k) :: rest)) := by
  subst href
  exact va_put F.1 F.2.1 F.2.2.2.2.1 hin ty0 hty hnm F.2.2.2.1 F.K hP (hq.D _) hS k (zwl_at hk he) hc j hj (F.ws hlink) (fun _ h => h) hfin hd hn hfit hl hdg (fun H1 locs1 h1 _ h3 => kk H1 locs1 (zP.upd hM he1 (by rw [← hs]; exact h1)) h3)
-- the enum's constants
theorem x_getE {fn : String} {vs : List Int32} {index j : Nat} (hq : ("CardMachine$Op", fn, "I", vs) ∈ opF) (hlink : Cond.fieldLink own index "CardMachine$Op" fn "I" ∈ BW)
    (F : zFx p s m args meth c cc own nL ret G A) (hS : va_S A s.heap H locs) (hj : j < 46) (hdg : decode cc pc = .ok (.getfield index, 3))
    (kk : W p l e R s m args below meth c H locs cells slots Q (F0 m (pc + 3) ls (.int (vs.getD j 0) :: rest))) : W p l e R s m args below meth c H locs cells slots Q (F0 m pc ls (.ref (G.2.2.1 j) :: rest)) :=
  va_getE F.1 F.2.1 F.S.1 hj hS F.2.2.2.1 hq (F.ws hlink) (fun _ h => h) hdg kk
theorem x_constE {nm : String} {index i : Nat} (hi : i < 46) (hnm : opNm.getD i "" = nm) (hlink : Cond.fieldLink own index "CardMachine$Op" nm "LCardMachine$Op;" ∈ BW)
    (F : zFx p s m args meth c cc own nL ret G A) (hS : va_S A s.heap H locs) (hdg : decode cc pc = .ok (.getstatic index, 3))
    (kk : W p l e R s m args below meth c H locs cells slots Q (F0 m (pc + 3) ls (.ref (G.2.2.1 i) :: rest))) : W p l e R s m args below meth c H locs cells slots Q (F0 m pc ls rest) := by
  subst hnm
  exact va_gets F.1 F.2.1 (F.S.1.1 i hi).1 hS F.2.2.2.1 (F.ws hlink) (fun _ h => h) hdg kk
theorem x_getO (F : zFx p s m args meth c cc "CardMachine$Processor" nL ret G A) (hS : va_S A s.heap H locs) (hdg : decode cc pc = .ok (.getstatic 112, 3))
    (kk : W p l e R s m args below meth c H locs cells slots Q (F0 m (pc + 3) ls (.ref G.2.2.2.1 :: rest))) : W p l e R s m args below meth c H locs cells slots Q (F0 m pc ls rest) :=
  va_getsN F.1 F.2.1 F.S.2.1.1 hS F.2.2.2.1 (va_Nw.use rfl F.S.2.2.2) (fun _ h => h) hdg kk
theorem x_aaldO {k : Nat} {i : Int32} (hx : ix i = k) (F : zFx p s m args meth c cc own nL ret G A) (hS : va_S A s.heap H locs) (hi : inb i 46 = true) (hdg : decode cc pc = .ok (.aaload, 1))
    (kk : W p l e R s m args below meth c H locs cells slots Q (F0 m (pc + 1) ls (.ref (G.2.2.1 k) :: rest))) : W p l e R s m args below meth c H locs cells slots Q (F0 m pc ls (.int i :: .ref G.2.2.2.1 :: rest)) :=
  vb_tq F.1 F.2.1 F.S.2.1.2 hS (inb_in hi) (by rw [← hx]) hdg kk
theorem x_alenO (F : zFx p s m args meth c cc own nL ret G A) (hS : va_S A s.heap H locs) (hdg : decode cc pc = .ok (.arraylength, 1))
    (kk : W p l e R s m args below meth c H locs cells slots Q (F0 m (pc + 1) ls (.int 46 :: rest))) : W p l e R s m args below meth c H locs cells slots Q (F0 m pc ls (.ref G.2.2.2.1 :: rest)) :=
  va_tlen F.1 F.2.1 F.S.2.1.2 hS rfl hdg kk
theorem x_getS {index : Nat} (hlink : Cond.fieldLink own index "CardMachine$1" "$SwitchMap$CardMachine$Op" "[I" ∈ BW) (F : zFx p s m args meth c cc own nL ret G A) (hS : va_S A s.heap H locs) (hdg : decode cc pc = .ok (.getstatic index, 3))
    (kk : W p l e R s m args below meth c H locs cells slots Q (F0 m (pc + 3) ls (.ref G.2.2.2.2 :: rest))) : W p l e R s m args below meth c H locs cells slots Q (F0 m pc ls rest) :=
  va_gets F.1 F.2.1 F.S.2.2.1.1 hS F.2.2.2.1 (F.ws hlink) (fun _ h => h) hdg kk
theorem x_ialdS {i : Int32} (F : zFx p s m args meth c cc own nL ret G A) (hS : va_S A s.heap H locs) (hi : inb i 46 = true) (hdg : decode cc pc = .ok (.iaload, 1))
    (kk : W p l e R s m args below meth c H locs cells slots Q (F0 m (pc + 1) ls (.int (opSw.getD (ix i) 0) :: rest))) : W p l e R s m args below meth c H locs cells slots Q (F0 m pc ls (.int i :: .ref G.2.2.2.2 :: rest)) :=
  va_ti F.1 F.2.1 F.S.2.2.1.2 hS (inb_in hi) rfl hdg kk
theorem x_acmp_ne {j i : Nat} {off : Int} {tgt : Nat} (F : zFx p s m args meth c cc own nL ret G A) (hj : j < 46) (hi : i < 46) (hdg : decode cc pc = .ok (.if_acmp .ne off, 3)) (ht : (pc : Int) + off = (tgt : Int))
    (kt : ¬ j = i → W p l e R s m args below meth c H locs cells slots Q (F0 m tgt ls rest)) (kf : j = i → W p l e R s m args below meth c H locs cells slots Q (F0 m (pc + 3) ls rest)) : W p l e R s m args below meth c H locs cells slots Q (F0 m pc ls (.ref (G.2.2.1 i) :: .ref (G.2.2.1 j) :: rest)) :=
  lv_acmp_ne (rx := some (G.2.2.1 j)) (ry := some (G.2.2.1 i)) F.1 F.2.1 hdg ht (fun h => kt (fun z => h (by rw [z]))) (fun h => kf (F.S.1.2 j i hj hi (Option.some.inj h)))
theorem x_acmp_eq {j i : Nat} {off : Int} {tgt : Nat} (F : zFx p s m args meth c cc own nL ret G A) (hj : j < 46) (hi : i < 46) (hdg : decode cc pc = .ok (.if_acmp .eq off, 3)) (ht : (pc : Int) + off = (tgt : Int))
    (kt : j = i → W p l e R s m args below meth c H locs cells slots Q (F0 m tgt ls rest)) (kf : ¬ j = i → W p l e R s m args below meth c H locs cells slots Q (F0 m (pc + 3) ls rest)) : W p l e R s m args below meth c H locs cells slots Q (F0 m pc ls (.ref (G.2.2.1 i) :: .ref (G.2.2.1 j) :: rest)) :=
  lv_acmp_eq (rx := some (G.2.2.1 j)) (ry := some (G.2.2.1 i)) F.1 F.2.1 hdg ht (fun h => kt (F.S.1.2 j i hj hi (Option.some.inj h))) (fun h => kf (fun z => h (by rw [z])))
-- calls
theorem zKS.go {U : State} (hK : zKS G A s) (hS : ∀ a : Nat, a < s.heap.size → ¬ A a → H[a]? = s.heap[a]?) (h1 : U.heap = H) (hW : s.WarmedH U.vm) : zKS G A U := by
  refine ⟨va_K.moved hW.alike hK.1, ?_⟩
  rw [h1]
  exact (hK.2.kept hS).warm hW
theorem x_callI {C : String} {y : MethodName} {cc' : ByteArray} {nL' n idx fr lo b : Nat} {ret' : Option FieldType} {P0 P1 : Heap → Prop} {as st : List Value} {r : Int32} {A0 : Nat → Prop} (wv : zWV own idx C y cc' nL' ret' n) (F : zFx p s m args meth c cc own nL ret G A) (hS : va_S A0 s.heap H locs) (hA : ∀ a, A a → A0 a) (hSA : ∀ a : Nat, a < s.heap.size → ¬ A a → H[a]? = s.heap[a]?) (hM : zKI l y cc' nL' ret' fr lo G A P0 (.ref b :: as) r P1) (h0 : P0 H)
    (hrc : ∃ cell : Cell, H[b]? = some cell ∧ cell.vm.isStatics = false ∧ s.vm.findClass C = some cell.cls) (hst : as.reverse ++ .ref b :: rest = st) (hls : ls.size = nL) (hn : as.length = n) (hR : fr + 1 ≤ R.frames ∧ 8 + (nL' + 11) + lo ≤ R.locals) (hcs : cells ≤ R.cells ∧ slots ≤ R.slots) (hcat : (rest.map fun v => v.category).sum ≤ 8) (hdg : decode cc pc = .ok (.invokevirtual idx, 3))
    (kk : ∀ (H1 : Heap) (locs1 : List Loc), P1 H1 → va_S A0 s.heap H1 locs1 → (∀ a : Nat, a < H.size → ¬ A a → H1[a]? = H[a]?) → H.size ≤ H1.size → W p l e R s m args below meth c H1 locs1 cells slots Q (F0 m (pc + 3) ls (.int r :: rest))) : W p l e R s m args below meth c H locs cells slots Q (F0 m pc ls st) := by
  subst hst
  refine va_calli (va_runV (As := as) (rest := rest) (b := b) ⟨F.1, F.2.1, F.2.2.1, F.2.2.2.1, F.2.2.2.2.1⟩ hM (cwV n F.2.2.2.2.1 wv.good rfl rfl rfl wv.2 hR) ⟨zPre_blind G A P0 _, hrc, fun U hU hW => ⟨rfl, by rw [hU]; exact h0, F.2.2.2.2.2.2.2.go hSA hU hW⟩⟩ rfl hn hls rfl (lv_room hcat) hdg hcs) hS (fun a _ h => hA a h) hA (fun r' u t H1 locs1 ht hvm hw hB hz hk hS1 => ?_)
  subst hw
  subst ht
  exact kk _ locs1 hB hS1 hk hz
theorem x_callV {C : String} {y : MethodName} {cc' : ByteArray} {nL' n idx fr lo b : Nat} {P0 P1 : Heap → Prop} {as st : List Value} {A0 : Nat → Prop} (wv : zWV own idx C y cc' nL' none n) (F : zFx p s m args meth c cc own nL ret G A) (hS : va_S A0 s.heap H locs) (hA : ∀ a, A a → A0 a) (hSA : ∀ a : Nat, a < s.heap.size → ¬ A a → H[a]? = s.heap[a]?) (hM : zKV l y cc' nL' fr lo G A P0 (.ref b :: as) P1) (h0 : P0 H)
    (hrc : ∃ cell : Cell, H[b]? = some cell ∧ cell.vm.isStatics = false ∧ s.vm.findClass C = some cell.cls) (hst : as.reverse ++ .ref b :: rest = st) (hls : ls.size = nL) (hn : as.length = n) (hR : fr + 1 ≤ R.frames ∧ 8 + (nL' + 11) + lo ≤ R.locals) (hcs : cells ≤ R.cells ∧ slots ≤ R.slots) (hcat : (rest.map fun v => v.category).sum ≤ 8) (hdg : decode cc pc = .ok (.invokevirtual idx, 3))
    (kk : ∀ (H1 : Heap) (locs1 : List Loc), P1 H1 → va_S A0 s.heap H1 locs1 → (∀ a : Nat, a < H.size → ¬ A a → H1[a]? = H[a]?) → H.size ≤ H1.size → W p l e R s m args below meth c H1 locs1 cells slots Q (F0 m (pc + 3) ls rest)) : W p l e R s m args below meth c H locs cells slots Q (F0 m pc ls st) := by
  subst hst
  refine va_callv (va_runV (As := as) (rest := rest) (b := b) ⟨F.1, F.2.1, F.2.2.1, F.2.2.2.1, F.2.2.2.2.1⟩ hM (cwV n F.2.2.2.2.1 wv.good rfl rfl rfl wv.2 hR) ⟨zPre_blind G A P0 _, hrc, fun U hU hW => ⟨rfl, by rw [hU]; exact h0, F.2.2.2.2.2.2.2.go hSA hU hW⟩⟩ rfl hn hls rfl (lv_room hcat) hdg hcs) hS (fun a _ h => hA a h) hA (fun u t H1 locs1 ht hvm hw hB hz hk hS1 => ?_)
  subst ht
  exact kk _ locs1 hB hS1 hk hz
theorem x_callSI {y : MethodName} {cc' : ByteArray} {nL' n idx fr lo : Nat} {ret' : Option FieldType} {P0 P1 : Heap → Prop} {as st : List Value} {r : Int32} {A0 : Nat → Prop} (wv : zWS own idx y cc' nL' ret' n) (F : zFx p s m args meth c cc own nL ret G A) (hS : va_S A0 s.heap H locs) (hA : ∀ a, A a → A0 a) (hSA : ∀ a : Nat, a < s.heap.size → ¬ A a → H[a]? = s.heap[a]?) (hM : zKI l y cc' nL' ret' fr lo G A P0 as r P1) (h0 : P0 H)
    (hst : as.reverse ++ rest = st) (hls : ls.size = nL) (hn : as.length = n) (hR : fr + 1 ≤ R.frames ∧ 8 + (nL' + 11) + lo ≤ R.locals) (hcs : cells ≤ R.cells ∧ slots ≤ R.slots) (hcat : (rest.map fun v => v.category).sum ≤ 8) (hdg : decode cc pc = .ok (.invokestatic idx, 3))
    (kk : ∀ (H1 : Heap) (locs1 : List Loc), P1 H1 → va_S A0 s.heap H1 locs1 → (∀ a : Nat, a < H.size → ¬ A a → H1[a]? = H[a]?) → H.size ≤ H1.size → W p l e R s m args below meth c H1 locs1 cells slots Q (F0 m (pc + 3) ls (.int r :: rest))) : W p l e R s m args below meth c H locs cells slots Q (F0 m pc ls st) := by
  subst hst
  refine va_calli (va_runS (As := as) (rest := rest) ⟨F.1, F.2.1, F.2.2.1, F.2.2.2.1, F.2.2.2.2.1⟩ hM (va_cwS n F.2.2.2.2.1 wv.good rfl rfl rfl wv.2 hR) ⟨zPre_blind G A P0 _, fun U hU hW => ⟨rfl, by rw [hU]; exact h0, F.2.2.2.2.2.2.2.go hSA hU hW⟩⟩ rfl hn hls rfl (lv_room hcat) hdg hcs) hS (fun a _ h => hA a h) hA (fun r' u t H1 locs1 ht hvm hw hB hz hk hS1 => ?_)
  subst hw
  subst ht
  exact kk _ locs1 hB hS1 hk hz
theorem x_callSV {y : MethodName} {cc' : ByteArray} {nL' n idx fr lo : Nat} {P0 P1 : Heap → Prop} {as st : List Value} {A0 : Nat → Prop} (wv : zWS own idx y cc' nL' none n) (F : zFx p s m args meth c cc own nL ret G A) (hS : va_S A0 s.heap H locs) (hA : ∀ a, A a → A0 a) (hSA : ∀ a : Nat, a < s.heap.size → ¬ A a → H[a]? = s.heap[a]?) (hM : zKV l y cc' nL' fr lo G A P0 as P1) (h0 : P0 H)
    (hst : as.reverse ++ rest = st) (hls : ls.size = nL) (hn : as.length = n) (hR : fr + 1 ≤ R.frames ∧ 8 + (nL' + 11) + lo ≤ R.locals) (hcs : cells ≤ R.cells ∧ slots ≤ R.slots) (hcat : (rest.map fun v => v.category).sum ≤ 8) (hdg : decode cc pc = .ok (.invokestatic idx, 3))
    (kk : ∀ (H1 : Heap) (locs1 : List Loc), P1 H1 → va_S A0 s.heap H1 locs1 → (∀ a : Nat, a < H.size → ¬ A a → H1[a]? = H[a]?) → H.size ≤ H1.size → W p l e R s m args below meth c H1 locs1 cells slots Q (F0 m (pc + 3) ls rest)) : W p l e R s m args below meth c H locs cells slots Q (F0 m pc ls st) := by
  subst hst
  refine va_callv (va_runS (As := as) (rest := rest) ⟨F.1, F.2.1, F.2.2.1, F.2.2.2.1, F.2.2.2.2.1⟩ hM (va_cwS n F.2.2.2.2.1 wv.good rfl rfl rfl wv.2 hR) ⟨zPre_blind G A P0 _, fun U hU hW => ⟨rfl, by rw [hU]; exact h0, F.2.2.2.2.2.2.2.go hSA hU hW⟩⟩ rfl hn hls rfl (lv_room hcat) hdg hcs) hS (fun a _ h => hA a h) hA (fun u t H1 locs1 ht hvm hw hB hz hk hS1 => ?_)
  subst ht
  exact kk _ locs1 hB hS1 hk hz
/-- the receiver is an object of the world -/
theorem x_recv {ci k : Nat} {C : String} {T : u_T} {n : Nat} {fs : List Value} (F : zFx p s m args meth c cc own nL ret G A) (hP : zP G.1 N q ent M H) (hc : vwCl[ci]? = some (C, T, n)) (hk : k < N) (he : ent k (M k) = .inr (ci, fs)) : ∃ cell : Cell, H[q k]? = some cell ∧ cell.vm.isStatics = false ∧ s.vm.findClass C = some cell.cls :=
  va_recv F.K hP hc (zwl_at hk he)
end ZR
