/-! THE LAW: its loop, its start -/
section LL
variable {p : Program} {l : Launch} {e : Env} {s : State} {m : MethodId} {below : List Frame} {meth : Method} {c : Code} {H : Heap} {locs : List Loc} {cells slots : Nat} {Q : State → Prop} {b L : Nat} {xs : Nat → Int32} {G : zG} {A : Nat → Prop} {qC qM : Nat → Nat} {pc : Nat} {ls : Array Slot} {rest : List Value} {i : Nat} {C C1 M M1 : St}
theorem law_loop (K : zLC p s m b L xs meth c G A qC qM) (hcs : cells ≤ 600000 ∧ slots ≤ 7302250) (hend : ∀ (H : Heap) (locs : List Loc) (ls : Array Slot), va_S A s.heap H locs → W p l e room_1 s m #[.ref b] below meth c H locs cells slots Q (F0 m 518 ls [])) : ∀ (n i : Nat) (C M : St) (H : Heap) (locs : List Loc) (ls : Array Slot), L < i + n → i ≤ 320 → RE C M → INV M → (zP G.1 58 qC (eC G qC) C H) → (zP G.1 21 qM (eM G qM) M H) → va_S A s.heap H locs → lv_has ls 4 [(3, .int (nI i)), (2, .ref (qM 0)), (1, .ref (qC 0)), (0, .ref b)] → W p l e room_1 s m #[.ref b] below meth c H locs cells slots Q (F0 m 18 ls []) := by
  intro n
  induction n with
  | zero =>
    intro i C M H locs ls hn hi _ _ _ _ hS hl
    exact law_head K hS hl hi (fun _ => hend H locs ls hS) (fun h => absurd h (by omega))
  | succ n ih =>
    intro i C M H locs ls hn hi hRE hINV hC hM hS hl
    refine law_head K hS hl hi (fun _ => hend H locs ls hS) (fun hi5 => ?_)
    have hL := K.2.2.2.2.1
    have IH : ∀ (C1 M1 : St) (H1 : Heap) (locs1 : List Loc), RE C1 M1 → INV M1 → (zP G.1 58 qC (eC G qC) C1 H1) → (zP G.1 21 qM (eM G qM) M1 H1) → va_S A s.heap H1 locs1 → W p l e room_1 s m #[.ref b] below meth c H1 locs1 cells slots Q (F0 m 512 ls []) := by
      intro C1 M1 H1 locs1 h1 h2 h3 h4 h5
      refine lv_iinc (v := nI (i + 5)) (lv' := [(3, .int (nI (i + 5))), (2, .ref (qM 0)), (1, .ref (qC 0)), (0, .ref b)]) K.1.1 K.1.2.1 dL_law_512 hl (k := 0) rfl (by rw [← nI_add]; rfl) (by decide) rfl (fun ls hl => ?_)
      refine lv_goto (tgt := 18) K.1.1 K.1.2.1 dL_law_515 (by decide) ?_
      exact ih (i + 5) C1 M1 H1 locs1 ls (by omega) (by omega) h1 h2 h3 h4 h5 hl
    by_cases hk : (xs i &&& 15).toInt < 0 ∨ 13 < (xs i &&& 15).toInt
    · exact lv_tableOut (tgt := 512) K.1.1 K.1.2.1 dL_law_32 hk (by decide) (IH C M H locs hRE hINV hC hM hS)
    · have hq : (xs i &&& 15).toInt = 0 ∨ (xs i &&& 15).toInt = 1 ∨ (xs i &&& 15).toInt = 2 ∨ (xs i &&& 15).toInt = 3 ∨ (xs i &&& 15).toInt = 4 ∨ (xs i &&& 15).toInt = 5 ∨ (xs i &&& 15).toInt = 6 ∨ (xs i &&& 15).toInt = 7 ∨ (xs i &&& 15).toInt = 8 ∨ (xs i &&& 15).toInt = 9 ∨ (xs i &&& 15).toInt = 10 ∨ (xs i &&& 15).toInt = 11 ∨ (xs i &&& 15).toInt = 12 ∨ (xs i &&& 15).toInt = 13 := by omega
      rcases hq with h | h | h | h | h | h | h | h | h | h | h | h | h | h
      · exact lv_tableIn (off := 72) (tgt := 104) K.1.1 K.1.2.1 dL_law_32 (by rw [h]; decide) (by rw [h]; decide) (by rw [h]; rfl) (by decide) (law_code K hcs hi5 hRE hINV hC hM hS hl IH)
      · exact lv_tableIn (off := 105) (tgt := 137) K.1.1 K.1.2.1 dL_law_32 (by rw [h]; decide) (by rw [h]; decide) (by rw [h]; rfl) (by decide) (law_codes K hcs hi5 hRE hINV hC hM hS hl IH)
      · exact lv_tableIn (off := 178) (tgt := 210) K.1.1 K.1.2.1 dL_law_32 (by rw [h]; decide) (by rw [h]; decide) (by rw [h]; rfl) (by decide) (law_method K hcs hi5 hRE hINV hC hM hS hl IH)
      · exact lv_tableIn (off := 247) (tgt := 279) K.1.1 K.1.2.1 dL_law_32 (by rw [h]; decide) (by rw [h]; decide) (by rw [h]; rfl) (by decide) (law_type K hcs hi5 hRE hINV hC hM hS hl IH)
      · exact lv_tableIn (off := 270) (tgt := 302) K.1.1 K.1.2.1 dL_law_32 (by rw [h]; decide) (by rw [h]; decide) (by rw [h]; rfl) (by decide) (law_run K hcs hi5 hRE hINV hC hM hS hl IH)
      · exact lv_tableIn (off := 303) (tgt := 335) K.1.1 K.1.2.1 dL_law_32 (by rw [h]; decide) (by rw [h]; decide) (by rw [h]; rfl) (by decide) (law_thrown0 K hcs hi5 hRE hINV hC hM hS hl IH)
      · exact lv_tableIn (off := 316) (tgt := 348) K.1.1 K.1.2.1 dL_law_32 (by rw [h]; decide) (by rw [h]; decide) (by rw [h]; rfl) (by decide) (law_value K hcs hi5 hRE hINV hC hM hS hl IH)
      · exact lv_tableIn (off := 329) (tgt := 361) K.1.1 K.1.2.1 dL_law_32 (by rw [h]; decide) (by rw [h]; decide) (by rw [h]; rfl) (by decide) (law_reply K hcs hi5 hRE hINV hC hM hS hl IH)
      · exact lv_tableIn (off := 352) (tgt := 384) K.1.1 K.1.2.1 dL_law_32 (by rw [h]; decide) (by rw [h]; decide) (by rw [h]; rfl) (by decide) (law_used K hcs hi5 hRE hINV hC hM hS hl IH)
      · exact lv_tableIn (off := 365) (tgt := 397) K.1.1 K.1.2.1 dL_law_32 (by rw [h]; decide) (by rw [h]; decide) (by rw [h]; rfl) (by decide) (law_tear K hcs hi5 hRE hINV hC hM hS hl IH)
      · exact lv_tableIn (off := 388) (tgt := 420) K.1.1 K.1.2.1 dL_law_32 (by rw [h]; decide) (by rw [h]; decide) (by rw [h]; rfl) (by decide) (law_reset K hcs hi5 hRE hINV hC hM hS hl IH)
      · exact lv_tableIn (off := 401) (tgt := 433) K.1.1 K.1.2.1 dL_law_32 (by rw [h]; decide) (by rw [h]; decide) (by rw [h]; rfl) (by decide) (law_objects K hcs hi5 hRE hINV hC hM hS hl IH)
      · exact lv_tableIn (off := 414) (tgt := 446) K.1.1 K.1.2.1 dL_law_32 (by rw [h]; decide) (by rw [h]; decide) (by rw [h]; rfl) (by decide) (law_told K hcs hi5 hRE hINV hC hM hS hl IH)
      · exact lv_tableIn (off := 447) (tgt := 479) K.1.1 K.1.2.1 dL_law_32 (by rw [h]; decide) (by rw [h]; decide) (by rw [h]; rfl) (by decide) (law_cell K hcs hi5 hRE hINV hC hM hS hl IH)
end LL
theorem law_inits : ∃ C M : St, RE C M ∧ INV M ∧ (∀ {G : zG} {A : Nat → Prop} {Q : Nat → Nat} {H : Heap}, CW G.1 A 58 Q (fun k => if k = 0 then .inr (6, [.ref (Q 1)]) else EB G Q 16 8 k) H → zP G.1 58 (fun k => Q (cr k)) (eC G (fun k => Q (cr k))) C H ∧ zQD A 58 (fun k => Q (cr k))) ∧ (∀ (l : Launch) (G : zG) (A : Nat → Prop) (qq : Nat → Nat) (f : Nat → va_E) (b : Nat), qq 0 = b → f 0 = .inr (7, [.null, .null, .null, .null, .int 0, .null, .null, .null, .null, .null, .int 0, .int 0, .int 0, .int 0, .int 0, .int 0, .null, .null, .int 0, .int 0, .null, .int 0, .null, .int 0, .int 0, .null, .null, .null, .null, .null, .null, .int 0, .int 0, .int 0, .int 0, .int 0, .null]) → zKN l yX9_init cX9_init 2 1 24 20 1300 G A (CW G.1 A 1 qq f) [.ref b] (fun H => ∃ qn : Nat → Nat, qn 0 = b ∧ zP G.1 21 qn (eM G qn) M H ∧ zQD A 21 qn)) :=
  ⟨C0g (SS 4), MM 4, init_RE, init_INV, fun h => init_C h, fun l G A qq f b hb he => tI_X9 l G A qq f hb he⟩
def R_law : String := "CardMachineLaw"
def lw_P (b : Addr) (xs : List Int32) (args : Array Value) (s : State) : Prop := args = #[.ref b] ∧ s.IntsAt b xs ∧ xs.length ≤ 320 ∧ (Jvm.Cond.and given_1 narrow_1).before args s = true
def lw_Q (_ : Array Value) (s : State) (o : Outcome) (t : State) : Prop := o = .returned (some (.int 1)) ∧ Framed s o t [] 600000 7302250
def lw_Z (below : List Frame) (a : Array Value) (s : State) : State → Prop := fun t => ∃ o, t.status = .running ∧ Ended t below o ∧ lw_Q a s o t
/-- the law's own end, with 1 on the stack, nothing written that was there before, its room as the claim has it -/
theorem lw_ret {p : Program} {l : Launch} {e : Env} {s : State} {m : MethodId} {below : List Frame} {meth : Method} {c : Code} {b : Nat} (hx : p.tables.exec = Jvm.exec) (hb : c.code = code) (hr : meth.sig.returnType = ret) (hlocks : meth.locks = false) {pc : Nat} {H : Heap} {ls : Array Slot} (hdg : decode code pc = .ok (.ireturn, 1)) : W p l e room_1 s m #[Value.ref b] below meth c H [] 600000 7302250 (lw_Z below #[Value.ref b] s) (F0 m pc ls [.int 1]) := by
  intro T hT X
  obtain ⟨fs, hret, hrun, hended, hW, hframe⟩ := X.leave (v := some (.int 1)) (hlocks := hlocks) (fun h => by rw [hr] at h; cases h)
  have hmeth' : T.vm.method? m = some meth := X.method'
  refine ⟨T.setFrames fs, ?_, .returned (some (.int 1)), hrun, hended, rfl, ⟨_, rfl⟩, hW, hframe⟩
  jvm_step X.here [X.here.top, hx, hb, hdg, hmeth', hr, ret, narrow_b1]
  (try refine ⟨rfl, ?_⟩); (try refine ⟨rfl, ?_⟩)
  first | (intro acts; rw [hret _ acts rfl rfl rfl]) | rw [hret _ _ rfl rfl rfl]
  exact Steps.refl _
/-- what holds at the law's entry: the machine, the code, the tables' words (any of lw_tbl by 'hts w (by decide +kernel)'), the script of L ints xs at the cell b, what the Statement gives of the start (any of its parts by flat_of_before) -/
def lw_At (p : Program) (s : State) (m : MethodId) (meth : Method) (c : Code) (b L : Nat) (xs : Nat → Int32) : Prop :=
  p.tables.exec = Jvm.exec ∧ c.code = code ∧ meth.sig.returnType = ret ∧ c.maxLocals = 4 ∧ s.vm.findClass R_law = some m.cls ∧ (∀ w ∈ lw_tbl, w.before #[Value.ref b] s = true) ∧ va_X b L xs s s.heap ∧ b < s.heap.size ∧ meth.locks = false ∧ (Jvm.Cond.and given_1 narrow_1).before #[Value.ref b] s = true
set_option maxHeartbeats 4000000 in
set_option maxRecDepth 100000 in
/-- YOUR PART: from the entry, for every script of at most 320 ints, the law comes to its end with true ('hflags': the launch's flags, for a law that throws: no stack traces) -/
theorem whole_start {p : Program} {e : Env} {s : State} {m : MethodId} {below : List Frame} {meth : Method} {c : Code} (l : Launch) (hflags : l.flags = flags0) {b L : Nat} {xs : Nat → Int32} (hL : L ≤ 320) (C0 : lw_At p s m meth c b L xs) : W p l e room_1 s m #[Value.ref b] below meth c s.heap [] 0 0 (lw_Z below #[Value.ref b] s) (entryFrame m ([Value.ref b] : List Value).toArray 4) := by
  obtain ⟨hx, hb, hr, hml, hown, hts, hX, hbl, hlocks, hgv⟩ := C0
  obtain ⟨C, M, hRE, hINV, iC, iM⟩ := law_inits
  have hNX := given_NX hts
  obtain ⟨ad, tO, tS, hSF⟩ := given_SF (A := fun q : Nat => s.heap.size ≤ q) (flat_of_before _ hgv) hts (fun a h => Nat.not_le.mpr h)
  obtain ⟨D, cI, cZ, cM, cF, hK⟩ := given_K hts
  obtain ⟨G, F⟩ : ∃ G : zG, zFx p s m #[.ref b] meth c code RL 4 ret G (fun q : Nat => s.heap.size ≤ q) := ⟨(D, (cI, cZ, cM, cF), (ad, tO, tS)), hx, hb, hml, hown, fun w hw => hts w (bw_tbl hw), hlocks, hr, hK, hSF⟩
  clear hSF hK D cI cZ cM cF ad tO tS
  have hA : ∀ q : Nat, s.heap.size ≤ q → (fun q : Nat => s.heap.size ≤ q) q := fun _ h => h
  have hbA : ¬ (fun q : Nat => s.heap.size ≤ q) b := Nat.not_le.mpr hbl
  have hend : ∀ {cells slots : Nat} (hcs : cells ≤ 600000 ∧ slots ≤ 7302250) (H : Heap) (locs : List Loc) (ls : Array Slot), va_S (fun q : Nat => s.heap.size ≤ q) s.heap H locs → W p l e room_1 s m #[Value.ref b] below meth c H locs cells slots (lw_Z below #[Value.ref b] s) (F0 m 518 ls []) := by
    intro cells slots hcs H locs ls hS
    refine lv_iconst (v := 1) hx hb dL_law_518 rfl ?_
    refine va_forget (fun q hq => hS.2.2 q hq) ?_
    refine W.widen (k := 600000) (n := 7302250) hcs.1 hcs.2 ?_
    exact lw_ret hx hb hr hlocks dL_law_519
  have hS : va_S (fun q : Nat => s.heap.size ≤ q) s.heap s.heap [] := va_S.rf
  have hl := lv_entry ([.ref b]) (n := 4) (Nat.le_of_ble_eq_true rfl)
  rw [lg_entry_eq]
  generalize (lg_sl ([.ref b]) ++ List.replicate (4 - (lg_sl ([.ref b])).length) Slot.unset).toArray = ls at hl ⊢
  have hl : lv_has ls 4 [(0, .ref b)] := hl
  have hP0 : CW G.1 (fun q : Nat => s.heap.size ≤ q) 0 (fun _ => 0) (fun _ => .inr (6, [.null])) s.heap := ⟨fun k q h => by simp [zwl] at h, ⟨fun i j x y h => by simp [zwl] at h, fun k q h => by simp [zwl] at h⟩⟩
  refine y_newO (own := RL) (C := RX8) (T := TX8) (ci := 6) (nf := 1) (fs := [.null]) in_X8 tyX8_ok rfl kL_0_14 kq_8 kL_0_1 (fun j hj => by rcases (show j = 0 by omega) with rfl; rfl) F hA hP0 hS (Nat.le_of_ble_eq_true rfl) (Nat.le_of_ble_eq_true rfl) dL_law_0 (fun a H hP hS => ?_)
  refine lv_dup hx hb dL_law_3 rfl ?_
  refine y_ctor (own := RL) (y := yX8_init) (A1 := fun q : Nat => s.heap.size ≤ q) kL_0_16 kL_0_17 kL_0_1 kL_0_18 rfl ⟨by decide, by decide, by decide +kernel⟩ F hNX hS (fun _ h => h) (fun a ha => Nat.le_trans hS.1 ha) (tI_X8 l G _ _ _ (b := a) (by exact va_up_self _ _ _) (by exact va_up_self _ _ _)) hP hl.1 ⟨(Nat.le_of_ble_eq_true rfl), (Nat.le_of_ble_eq_true rfl)⟩ ⟨(Nat.le_of_ble_eq_true rfl), (Nat.le_of_ble_eq_true rfl)⟩ (Nat.le_of_ble_eq_true rfl) dL_law_4 (fun H locs hPn hS _ _ => ?_)
  obtain ⟨qC, e0, hC, hqC⟩ : ∃ qC : Nat → Nat, qC 0 = a ∧ zP G.1 58 qC (eC G qC) C H ∧ zQD (fun q : Nat => s.heap.size ≤ q) 58 qC := by
    obtain ⟨Q, h0, h1⟩ := hPn
    obtain ⟨h2, h3⟩ := iC h1
    exact ⟨fun k => Q (cr k), h0, h2, h3⟩
  clear hPn hP hP0 iC
  subst e0
  refine lv_astore_n (lv' := [(1, .ref (qC 0)), (0, .ref b)]) hx hb dL_law_7 rfl hl (by decide) rfl (fun ls hl => ?_)
  refine y_newO (N := 58) (qq := qC) (f := fun k => eC G qC k (C k)) (own := RL) (C := RX9) (T := TX9) (ci := 7) (nf := 37) (fs := [.null, .null, .null, .null, .int 0, .null, .null, .null, .null, .null, .int 0, .int 0, .int 0, .int 0, .int 0, .int 0, .null, .null, .int 0, .int 0, .null, .int 0, .null, .int 0, .int 0, .null, .null, .null, .null, .null, .null, .int 0, .int 0, .int 0, .int 0, .int 0, .null]) in_X9 tyX9_ok rfl kL_2_94 kq_9 kL_0_9 (fun j hj => by rcases (show j = 0 ∨ j = 1 ∨ j = 2 ∨ j = 3 ∨ j = 4 ∨ j = 5 ∨ j = 6 ∨ j = 7 ∨ j = 8 ∨ j = 9 ∨ j = 10 ∨ j = 11 ∨ j = 12 ∨ j = 13 ∨ j = 14 ∨ j = 15 ∨ j = 16 ∨ j = 17 ∨ j = 18 ∨ j = 19 ∨ j = 20 ∨ j = 21 ∨ j = 22 ∨ j = 23 ∨ j = 24 ∨ j = 25 ∨ j = 26 ∨ j = 27 ∨ j = 28 ∨ j = 29 ∨ j = 30 ∨ j = 31 ∨ j = 32 ∨ j = 33 ∨ j = 34 ∨ j = 35 ∨ j = 36 by omega) with rfl | rfl | rfl | rfl | rfl | rfl | rfl | rfl | rfl | rfl | rfl | rfl | rfl | rfl | rfl | rfl | rfl | rfl | rfl | rfl | rfl | rfl | rfl | rfl | rfl | rfl | rfl | rfl | rfl | rfl | rfl | rfl | rfl | rfl | rfl | rfl | rfl <;> rfl) F hA ⟨hC, hqC.D _⟩ hS (Nat.le_of_ble_eq_true rfl) (Nat.le_of_ble_eq_true rfl) dL_law_8 (fun a1 H1 hP1 hS => ?_)
  obtain ⟨hC1, hX1, ha1, hne⟩ : zP G.1 58 qC (eC G qC) C H1 ∧ va_at G.1 vwCl (a1, .inr (7, [.null, .null, .null, .null, .int 0, .null, .null, .null, .null, .null, .int 0, .int 0, .int 0, .int 0, .int 0, .int 0, .null, .null, .int 0, .int 0, .null, .int 0, .null, .int 0, .int 0, .null, .null, .null, .null, .null, .null, .int 0, .int 0, .int 0, .int 0, .int 0, .null])) H1 ∧ s.heap.size ≤ a1 ∧ ∀ k, k < 58 → qC k ≠ a1 := by
    have hq1 := zQD_of hP1.2
    refine ⟨va_Pz (fun k hk => ?_), ?_, ?_, fun k hk e => ?_⟩
    · have := va_Pk hP1.1 (k := k) (by omega)
      rw [va_up_ne _ _ (by omega), va_up_ne _ _ (by omega)] at this
      exact this
    · have := va_Pk hP1.1 (k := 58) (by decide)
      rw [va_up_self, va_up_self] at this
      exact this
    · have := hq1.2 58 (by decide)
      rw [va_up_self] at this
      exact this
    · have := hq1.1 k 58 (by omega) (by decide) (by rw [va_up_self, va_up_ne _ _ (by omega)]; exact e)
      omega
  clear hP1
  have hW1 : CW G.1 (fun q : Nat => s.heap.size ≤ q ∧ ∀ k, k < 58 → q ≠ qC k) 1 (fun _ => a1) (fun _ => .inr (7, [.null, .null, .null, .null, .int 0, .null, .null, .null, .null, .null, .int 0, .int 0, .int 0, .int 0, .int 0, .int 0, .null, .null, .int 0, .int 0, .null, .int 0, .null, .int 0, .int 0, .null, .null, .null, .null, .null, .null, .int 0, .int 0, .int 0, .int 0, .int 0, .null])) H1 :=
    ⟨va_Pz (fun k hk => hX1), zQD.D ⟨fun i j hi hj _ => by omega, fun i hi => ⟨ha1, fun k hk e => hne k hk e.symm⟩⟩ _⟩
  refine lv_dup hx hb dL_law_11 rfl ?_
  refine y_ctor (own := RL) (y := yX9_init) (A1 := fun q : Nat => s.heap.size ≤ q ∧ ∀ k, k < 58 → q ≠ qC k) kL_2_96 kL_2_97 kL_0_9 kL_2_98 rfl ⟨by decide, by decide, by decide +kernel⟩ F hNX hS (fun _ h => h.1) (fun x hx => ⟨Nat.le_trans hS.1 hx, fun k hk e => absurd (zP_lt hC1 hk) (by omega)⟩) (iM l G _ _ _ a1 rfl rfl) hW1 hl.1 ⟨(Nat.le_of_ble_eq_true rfl), (Nat.le_of_ble_eq_true rfl)⟩ ⟨(Nat.le_of_ble_eq_true rfl), (Nat.le_of_ble_eq_true rfl)⟩ (Nat.le_of_ble_eq_true rfl) dL_law_12 (fun H2 locs2 hPn hS hk hz => ?_)
  obtain ⟨qM, e1, hM, hqM⟩ := hPn
  have hC2 : zP G.1 58 qC (eC G qC) C H2 := zP_keep hC1 (fun k hk1 => hk _ (zP_lt hC1 hk1) (fun h => h.2 k hk1 rfl))
  clear hW1 hX1 iM
  subst e1
  refine lv_astore_n (lv' := [(2, .ref (qM 0)), (1, .ref (qC 0)), (0, .ref b)]) hx hb dL_law_15 rfl hl (by decide) rfl (fun ls hl => ?_)
  refine lv_iconst (v := 0) hx hb dL_law_16 rfl ?_
  refine lv_istore_n (lv' := [(3, .int 0), (2, .ref (qM 0)), (1, .ref (qC 0)), (0, .ref b)]) hx hb dL_law_17 rfl hl (by decide) rfl (fun ls hl => ?_)
  exact law_loop ⟨F, hX, hbl, hbA, hL, ⟨hqC, ⟨hqM.1, fun i hi => (hqM.2 i hi).1⟩⟩, fun k hk j hj e => (hqM.2 j hj).2 k hk e.symm⟩ ⟨(Nat.le_of_ble_eq_true rfl), (Nat.le_of_ble_eq_true rfl)⟩ (hend ⟨(Nat.le_of_ble_eq_true rfl), (Nat.le_of_ble_eq_true rfl)⟩) 321 0 C M _ _ ls (by omega) (by decide) hRE hINV hC2 hM hS hl
