/-! PART II, what a step uses: the reference's count grows, and stays within what is given -/
def AG (M M' : St) : Prop := M' 0 31 = M 0 31 ∧ M' 0 32 = M 0 32
def KS (M : St) (x : Option St) : Prop := ∀ M', x = some M' → AG M M'
theorem AG.rf {M : St} : AG M M := ⟨rfl, rfl⟩
theorem AG.up {M M' : St} (h : AG M M') {b i : Nat} {v : Int32} (hb : b ≠ 0 ∨ (i ≠ 31 ∧ i ≠ 32)) : AG M (up2 M' b i v) := by
  refine ⟨?_, ?_⟩
  · rw [up2_cell _ _ _ _ _ _ (by rcases hb with q | q; exact Or.inl (Ne.symm q); exact Or.inr (Ne.symm q.1))]; exact h.1
  · rw [up2_cell _ _ _ _ _ _ (by rcases hb with q | q; exact Or.inl (Ne.symm q); exact Or.inr (Ne.symm q.2))]; exact h.2
theorem KS.no {M : St} : KS M none := fun _ h => by cases h
theorem KS.so {M N : St} (h : AG M N) : KS M (some N) := fun M' e => by cases e; exact h
theorem KS.gx {M : St} {b : Bool} {x : Option St} (h : KS M x) : KS M (gd b x) := fun M' e => h M' (gd_some e).2
theorem KS.ix2 {M : St} {c : Prop} [Decidable c] {x y : Option St} (h1 : KS M x) (h2 : KS M y) : KS M (if c then x else y) := by
  by_cases q : c
  · rw [if_pos q]; exact h1
  · rw [if_neg q]; exact h2
theorem KS.lx {M : St} {α : Type} {v : α} {f : α → Option St} (h : KS M (f v)) : KS M (lt v f) := h
theorem KS.fx {M : St} {α : Type} {x : Option α} {f : α → Option St} (h : ∀ y, KS M (f y)) : KS M (bn x f) := fun M' e => by
  obtain ⟨y, -, e2⟩ := bn_some e
  exact h y M' e2
theorem KS.sq {M : St} {x : Option St} {f : St → Option St} (h1 : KS M x) (h2 : ∀ M1, AG M M1 → KS M (f M1)) : KS M (bn x f) := fun M' e => by
  obtain ⟨y, e1, e2⟩ := bn_some e
  exact h2 y (h1 y e1) M' e2
theorem KS.wr {M0 M : St} (h : AG M0 M) {f : Int32 → St → Option St} (h2 : ∀ r M1, AG M0 M1 → KS M0 (f r M1)) : KS M0 (bn2 (pX9_writes M) f) := fun M' e => by
  obtain ⟨r, N, e1, e2⟩ := bn2_some e
  refine h2 r N ?_ M' e2
  unfold pX9_writes at e1
  by_cases q : M 0 12 = 0
  · rw [if_pos q] at e1
    cases e1
    exact (h.up (Or.inr ⟨by decide, by decide⟩)).up (Or.inr ⟨by decide, by decide⟩)
  · rw [if_neg q] at e1
    by_cases q2 : M 0 12 ≤ 0
    · rw [if_pos q2] at e1
      cases e1
      exact h.up (Or.inr ⟨by decide, by decide⟩)
    · rw [if_neg q2] at e1
      cases e1
      exact h.up (Or.inr ⟨by decide, by decide⟩)
theorem ks_put {M0 M : St} (h : AG M0 M) {v : Int32} : KS M0 (pX9_put M v) := by
  unfold pX9_put
  repeat' first | with_reducible assumption | with_reducible refine KS.gx ?_ | with_reducible refine KS.ix2 ?_ ?_ | with_reducible refine KS.lx ?_ | with_reducible refine KS.so ?_ | with_reducible refine KS.fx (fun _ => ?_) | refine AG.up ?_ (Or.inl (by decide)) | refine AG.up ?_ (Or.inr ⟨by decide, by decide⟩)
theorem ks_drop {M0 M : St} (h : AG M0 M) {v : Int32} : KS M0 (pX9_drop M v) := by
  unfold pX9_drop
  repeat' first | with_reducible assumption | with_reducible refine KS.gx ?_ | with_reducible refine KS.ix2 ?_ ?_ | with_reducible refine KS.lx ?_ | with_reducible refine KS.so ?_ | with_reducible refine KS.fx (fun _ => ?_) | refine AG.up ?_ (Or.inl (by decide)) | refine AG.up ?_ (Or.inr ⟨by decide, by decide⟩)
theorem ks_on {M0 M : St} (h : AG M0 M) {v : Int32} : KS M0 (pX9_on M v) := by
  unfold pX9_on
  repeat' first | with_reducible assumption | with_reducible refine KS.gx ?_ | with_reducible refine KS.ix2 ?_ ?_ | with_reducible refine KS.lx ?_ | with_reducible refine KS.so ?_ | with_reducible refine KS.fx (fun _ => ?_) | refine AG.up ?_ (Or.inl (by decide)) | refine AG.up ?_ (Or.inr ⟨by decide, by decide⟩)
theorem ks_enterL (N : Nat) : ∀ {M0 M : St} {x : Int32}, AG M0 M → KS M0 (pX9_enter_b52 N M x) := by
  induction N with
  | zero => intro M0 M x h; exact KS.no
  | succ N ih =>
    intro M0 M x h
    rw [pX9_enter_b52]
    repeat' first | with_reducible assumption | with_reducible refine KS.gx ?_ | with_reducible refine KS.ix2 ?_ ?_ | with_reducible refine KS.lx ?_ | with_reducible refine KS.so ?_ | with_reducible refine ih ?_ | with_reducible refine KS.fx (fun _ => ?_) | refine AG.up ?_ (Or.inl (by decide)) | refine AG.up ?_ (Or.inr ⟨by decide, by decide⟩)
theorem ks_enter {M0 M : St} (h : AG M0 M) {v : Int32} : KS M0 (pX9_enter M v) := by
  unfold pX9_enter
  repeat' first | with_reducible assumption | with_reducible refine KS.gx ?_ | with_reducible refine KS.ix2 ?_ ?_ | with_reducible refine KS.lx ?_ | with_reducible refine KS.so ?_ | with_reducible refine ks_enterL LF ?_ | with_reducible refine KS.fx (fun _ => ?_) | refine AG.up ?_ (Or.inl (by decide)) | refine AG.up ?_ (Or.inr ⟨by decide, by decide⟩)
theorem ks_addL (N : Nat) : ∀ {M0 M : St} {x y : Int32}, AG M0 M → KS M0 (pX9_add_b56 N M x y) := by
  induction N with
  | zero => intro M0 M x y h; exact KS.no
  | succ N ih =>
    intro M0 M x y h
    rw [pX9_add_b56]
    repeat' first | with_reducible assumption | with_reducible refine KS.gx ?_ | with_reducible refine KS.ix2 ?_ ?_ | with_reducible refine KS.lx ?_ | with_reducible refine KS.so ?_ | with_reducible refine ih ?_ | with_reducible refine KS.fx (fun _ => ?_) | refine AG.up ?_ (Or.inl (by decide)) | refine AG.up ?_ (Or.inr ⟨by decide, by decide⟩)
theorem ks_add {M0 M : St} (h : AG M0 M) {x y z : Int32} : KS M0 (pX9_add M x y z) := by
  unfold pX9_add
  repeat' first | with_reducible assumption | with_reducible refine KS.gx ?_ | with_reducible refine KS.ix2 ?_ ?_ | with_reducible refine KS.lx ?_ | with_reducible refine KS.so ?_ | with_reducible refine ks_addL LF ?_ | with_reducible refine KS.fx (fun _ => ?_) | refine AG.up ?_ (Or.inl (by decide)) | refine AG.up ?_ (Or.inr ⟨by decide, by decide⟩)
theorem ks_undoL (N : Nat) : ∀ {M0 M : St} {x : Int32}, AG M0 M → KS M0 (pX9_undoAll_b7 N M x) := by
  induction N with
  | zero => intro M0 M x h; exact KS.no
  | succ N ih =>
    intro M0 M x h
    rw [pX9_undoAll_b7]
    repeat' first | with_reducible assumption | with_reducible refine KS.gx ?_ | with_reducible refine KS.ix2 ?_ ?_ | with_reducible refine KS.lx ?_ | with_reducible refine KS.so ?_ | with_reducible refine ih ?_ | with_reducible refine KS.fx (fun _ => ?_) | refine AG.up ?_ (Or.inl (by decide)) | refine AG.up ?_ (Or.inr ⟨by decide, by decide⟩)
theorem ks_undo {M0 M : St} (h : AG M0 M) : KS M0 (pX9_undoAll M) := ks_undoL LF h
theorem ks_throwL (N : Nat) : ∀ {M0 M : St} {x : Int32}, AG M0 M → KS M0 (pX9_throwIt_b0 N M x) := by
  induction N with
  | zero => intro M0 M x h; exact KS.no
  | succ N ih =>
    intro M0 M x h
    rw [pX9_throwIt_b0]
    repeat' first | with_reducible assumption | with_reducible refine KS.gx ?_ | with_reducible refine KS.ix2 ?_ ?_ | with_reducible refine KS.lx ?_ | with_reducible refine KS.so ?_ | with_reducible refine ih ?_ | with_reducible refine KS.sq (ks_put ?_) (fun _ _ => ?_) | with_reducible refine KS.fx (fun _ => ?_) | refine AG.up ?_ (Or.inl (by decide)) | refine AG.up ?_ (Or.inr ⟨by decide, by decide⟩)
theorem ks_throw {M0 M : St} (h : AG M0 M) {v : Int32} : KS M0 (pX9_throwIt M v) := by
  rw [throwIt_eq]
  exact ks_throwL (LF + 1) h
theorem ks_callL (N : Nat) : ∀ {M0 M : St} {x y z : Int32}, AG M0 M → KS M0 (pX9_callIt_b41 N M x y z) := by
  induction N with
  | zero => intro M0 M x y z h; exact KS.no
  | succ N ih =>
    intro M0 M x y z h
    rw [pX9_callIt_b41]
    repeat' first | with_reducible assumption | with_reducible refine KS.gx ?_ | with_reducible refine KS.ix2 ?_ ?_ | with_reducible refine KS.lx ?_ | with_reducible refine KS.so ?_ | with_reducible refine ih ?_ | with_reducible refine KS.fx (fun _ => ?_) | refine AG.up ?_ (Or.inl (by decide)) | refine AG.up ?_ (Or.inr ⟨by decide, by decide⟩)
theorem ks_call {M0 M : St} (h : AG M0 M) : KS M0 (pX9_callIt M) := by
  unfold pX9_callIt
  exact KS.fx (fun _ => KS.fx (fun _ => KS.fx (fun _ => KS.sq (ks_on h) (fun _ h1 => KS.sq (ks_drop h1) (fun _ h2 => KS.sq (ks_enter h2) (fun _ h3 => ks_callL LF h3))))))
theorem ks_make {M0 M : St} (h : AG M0 M) {v : Int32} : KS M0 (pX9_make M v) := by
  unfold pX9_make pX9_make_b31
  repeat' first | with_reducible assumption | with_reducible refine KS.wr ?_ (fun _ _ _ => ?_) | with_reducible refine KS.gx ?_ | with_reducible refine KS.ix2 ?_ ?_ | with_reducible refine KS.lx ?_ | with_reducible refine KS.so ?_ | with_reducible refine KS.sq (ks_on ?_) (fun _ _ => ?_) | with_reducible refine KS.sq (ks_put ?_) (fun _ _ => ?_) | with_reducible refine KS.sq (ks_add ?_) (fun _ _ => ?_) | with_reducible refine KS.fx (fun _ => ?_) | refine AG.up ?_ (Or.inl (by decide)) | refine AG.up ?_ (Or.inr ⟨by decide, by decide⟩)
theorem ks_store {M0 M : St} (h : AG M0 M) : KS M0 (pX9_store M) := by
  unfold pX9_store pX9_store_b85
  repeat' first | with_reducible assumption | with_reducible refine KS.wr ?_ (fun _ _ _ => ?_) | with_reducible refine KS.gx ?_ | with_reducible refine KS.ix2 ?_ ?_ | with_reducible refine KS.lx ?_ | with_reducible refine KS.so ?_ | with_reducible refine KS.sq (ks_on ?_) (fun _ _ => ?_) | with_reducible refine KS.sq (ks_drop ?_) (fun _ _ => ?_) | with_reducible refine KS.fx (fun _ => ?_) | refine AG.up ?_ (Or.inl (by decide)) | refine AG.up ?_ (Or.inr ⟨by decide, by decide⟩)
theorem ks_copyL (N : Nat) : ∀ {M0 M : St} {x y z w : Int32}, AG M0 M → KS M0 (pX9_copy_b73 N M x y z w) := by
  induction N with
  | zero => intro M0 M x y z w h; exact KS.no
  | succ N ih =>
    intro M0 M x y z w h
    rw [pX9_copy_b73]
    repeat' first | with_reducible assumption | with_reducible refine KS.wr ?_ (fun _ _ _ => ?_) | with_reducible refine KS.gx ?_ | with_reducible refine KS.ix2 ?_ ?_ | with_reducible refine KS.lx ?_ | with_reducible refine KS.so ?_ | with_reducible refine ih ?_ | with_reducible refine KS.sq (ks_on ?_) (fun _ _ => ?_) | with_reducible refine KS.sq (ks_drop ?_) (fun _ _ => ?_) | with_reducible refine KS.fx (fun _ => ?_) | refine AG.up ?_ (Or.inl (by decide)) | refine AG.up ?_ (Or.inr ⟨by decide, by decide⟩)
theorem ks_leave {M0 M : St} (h : AG M0 M) {v : Int32} : KS M0 (pX9_leave M v) := by
  unfold pX9_leave pX9_leave_b13
  repeat' first | with_reducible assumption | with_reducible refine KS.gx ?_ | with_reducible refine KS.ix2 ?_ ?_ | with_reducible refine KS.lx ?_ | with_reducible refine KS.so ?_ | with_reducible refine KS.sq (ks_put ?_) (fun _ _ => ?_) | with_reducible refine KS.sq (ks_throw ?_) (fun _ _ => ?_) | with_reducible refine KS.fx (fun _ => ?_) | refine AG.up ?_ (Or.inl (by decide)) | refine AG.up ?_ (Or.inr ⟨by decide, by decide⟩)
theorem ks_jump {M0 M : St} (h : AG M0 M) {v : Int32} : KS M0 (pX9_jump M v) := by
  unfold pX9_jump pX9_jump_b35 pX9_jump_b57 pX9_jump_b62 pX9_jump_b82
  repeat' first | with_reducible assumption | with_reducible refine KS.ix2 ?_ ?_ | with_reducible refine KS.so ?_ | with_reducible refine KS.sq (ks_on ?_) (fun _ _ => ?_) | with_reducible refine KS.sq (ks_drop ?_) (fun _ _ => ?_) | with_reducible refine KS.fx (fun _ => ?_)
theorem ks_local {M0 M : St} (h : AG M0 M) {v : Int32} : KS M0 (pX9_local M v) := by
  unfold pX9_local
  repeat' first | with_reducible assumption | with_reducible refine KS.gx ?_ | with_reducible refine KS.ix2 ?_ ?_ | with_reducible refine KS.lx ?_ | with_reducible refine KS.so ?_ | with_reducible refine KS.sq (ks_on ?_) (fun _ _ => ?_) | with_reducible refine KS.sq (ks_drop ?_) (fun _ _ => ?_) | with_reducible refine KS.sq (ks_put ?_) (fun _ _ => ?_) | with_reducible refine KS.fx (fun _ => ?_) | refine AG.up ?_ (Or.inl (by decide)) | refine AG.up ?_ (Or.inr ⟨by decide, by decide⟩)
theorem ks_replace {M0 M : St} (h : AG M0 M) {v w : Int32} : KS M0 (pX9_replace M v w) := by
  unfold pX9_replace
  repeat' first | with_reducible assumption | with_reducible refine KS.so ?_ | with_reducible refine KS.sq (ks_on ?_) (fun _ _ => ?_) | with_reducible refine KS.sq (ks_drop ?_) (fun _ _ => ?_) | with_reducible refine KS.sq (ks_put ?_) (fun _ _ => ?_)
theorem ks_transact {M0 M : St} (h : AG M0 M) {v : Int32} : KS M0 (pX9_transact M v) := by
  unfold pX9_transact pX9_transact_b14
  repeat' first | with_reducible assumption | with_reducible refine KS.wr ?_ (fun _ _ _ => ?_) | with_reducible refine KS.gx ?_ | with_reducible refine KS.ix2 ?_ ?_ | with_reducible refine KS.lx ?_ | with_reducible refine KS.so ?_ | with_reducible refine KS.sq (ks_on ?_) (fun _ _ => ?_) | with_reducible refine KS.sq (ks_undo ?_) (fun _ _ => ?_) | with_reducible refine KS.fx (fun _ => ?_) | refine AG.up ?_ (Or.inl (by decide)) | refine AG.up ?_ (Or.inr ⟨by decide, by decide⟩)
theorem ks_small {M0 M : St} (h : AG M0 M) {v : Int32} : KS M0 (pX9_actSmall M v) := by
  unfold pX9_actSmall pX9_actSmall_b16 pX9_actSmall_b212
  repeat' first | with_reducible assumption | with_reducible exact KS.no | with_reducible refine KS.gx ?_ | with_reducible refine KS.ix2 ?_ ?_ | with_reducible refine KS.lx ?_ | with_reducible refine KS.so ?_ | with_reducible refine KS.sq (ks_on ?_) (fun _ _ => ?_) | with_reducible refine KS.sq (ks_replace ?_) (fun _ _ => ?_) | with_reducible refine KS.sq (ks_drop ?_) (fun _ _ => ?_) | with_reducible refine KS.sq (ks_put ?_) (fun _ _ => ?_) | with_reducible refine KS.sq (ks_throw ?_) (fun _ _ => ?_) | with_reducible refine KS.fx (fun _ => ?_) | refine AG.up ?_ (Or.inl (by decide)) | refine AG.up ?_ (Or.inr ⟨by decide, by decide⟩)
theorem ks_b98 {M0 M : St} (h : AG M0 M) {x : Int32} (hx : ¬ x = 35) : KS M0 (pX9_act_b98 M x) := by
  unfold pX9_act_b98
  rw [if_neg hx]
  repeat' first | with_reducible assumption | with_reducible refine KS.ix2 ?_ ?_ | with_reducible refine KS.so ?_ | with_reducible refine KS.sq (ks_call ?_) (fun _ _ => ?_) | with_reducible refine KS.sq (ks_leave ?_) (fun _ _ => ?_) | with_reducible refine KS.sq (ks_make ?_) (fun _ _ => ?_) | with_reducible refine KS.sq (ks_store ?_) (fun _ _ => ?_) | with_reducible refine KS.sq (ks_small ?_) (fun _ _ => ?_)
theorem ks_act {M0 M : St} (h : AG M0 M) {x : Int32} (hx : ¬ x = 35) : KS M0 (pX9_act M x) := by
  unfold pX9_act pX9_act_b40 pX9_act_b60 pX9_act_b78
  repeat' first | with_reducible assumption | with_reducible exact ks_b98 h hx | with_reducible refine KS.ix2 ?_ ?_ | with_reducible refine KS.so ?_ | with_reducible refine KS.sq (ks_replace ?_) (fun _ _ => ?_) | with_reducible refine KS.sq (ks_jump ?_) (fun _ _ => ?_) | with_reducible refine KS.sq (ks_local ?_) (fun _ _ => ?_) | with_reducible refine KS.sq (ks_transact ?_) (fun _ _ => ?_) | with_reducible refine KS.fx (fun _ => ?_)
theorem kc_copy {M M' : St} (hs : pX9_copy M = some M') : AG M M' ∨ ∃ v, pX9_at M 0 = some v ∧ v ≤ M 0 31 - M 0 32 ∧ M' 0 31 = M 0 31 ∧ M' 0 32 = M 0 32 + v := by
  unfold pX9_copy at hs
  obtain ⟨v, e1, hs⟩ := bn_some hs
  by_cases fu : v ≤ M 0 31 - M 0 32
  · rw [if_pos fu] at hs
    right
    have k : KS (up2 M 0 32 (M 0 32 + v)) (bn (pX9_at M 4) fun r2 => gd (inb r2 41) <| bn (pX9_at M 3) fun r3 => bn (pX9_at M 2) fun r4 => gd (inb r4 41) <| bn (pX9_at M 1) fun r5 => lt (up2 M 0 32 ((M 0 32) + v)) fun M1 => pX9_copy_b73 LF M1 v ((M 8 (ix r2)) + r3) ((M 8 (ix r4)) + r5) 0) := by
      repeat' first | with_reducible exact AG.rf | with_reducible refine KS.gx ?_ | with_reducible refine KS.lx ?_ | with_reducible refine ks_copyL LF ?_ | with_reducible refine KS.fx (fun _ => ?_)
    obtain ⟨k1, k2⟩ := k M' hs
    exact ⟨v, e1, fu, k1, k2⟩
  · rw [if_neg fu] at hs
    left
    cases hs
    exact AG.rf.up (Or.inr ⟨by decide, by decide⟩)
def PZ (x : Option Int32) : Prop := ∀ r, x = some r → ¬ r ≤ 0
theorem PZ.so {r : Int32} (h : ¬ r ≤ 0) : PZ (some r) := fun q e => by cases e; exact h
theorem PZ.ix2 {c : Prop} [Decidable c] {x y : Option Int32} (h1 : PZ x) (h2 : PZ y) : PZ (if c then x else y) := by
  by_cases q : c
  · rw [if_pos q]; exact h1
  · rw [if_neg q]; exact h2
theorem PZ.gx {b : Bool} {x : Option Int32} (h : PZ x) : PZ (gd b x) := fun r e => h r (gd_some e).2
theorem PZ.fx {α : Type} {x : Option α} {f : α → Option Int32} (h : ∀ y, PZ (f y)) : PZ (bn x f) := fun r e => by
  obtain ⟨y, -, e2⟩ := bn_some e
  exact h y r e2
theorem pzCopy (M : St) (a b c d : Int32) {v : Int32} (hn : ¬ 0 ≤ v) : PZ (pX9_copyFault M a b c d v) := by
  unfold pX9_copyFault
  simp only [if_neg hn]
  repeat' first | with_reducible refine PZ.gx ?_ | with_reducible refine PZ.ix2 ?_ ?_ | with_reducible refine PZ.fx (fun _ => ?_) | exact PZ.so (by decide)
theorem pz35 {M : St} {v : Int32} (hb : pX9_byteAt M 0 = some 35) (hv : pX9_at M 0 = some v) (hn : ¬ 0 ≤ v) : PZ (pX9_fault M) := by
  unfold pX9_fault
  simp only [hb, hv, bn_s, if_neg (show ¬ (35 : Int32) = 30 by decide), if_neg (show ¬ (35 : Int32) = 31 by decide), if_neg (show ¬ (35 : Int32) = 32 by decide), if_neg (show ¬ (35 : Int32) = 34 by decide), bn_eta]
  rw [if_pos trivial]
  repeat' first | with_reducible exact pzCopy _ _ _ _ _ hn | with_reducible refine PZ.gx ?_ | with_reducible refine PZ.ix2 ?_ ?_ | with_reducible refine PZ.fx (fun _ => ?_) | exact PZ.so (by decide)
theorem step_used {M M' : St} {U F : Nat} (hF : M 0 31 = nI F) (hU : M 0 32 = nI U) (hUF : U < F) (h3 : F ≤ 3000) (hs : pX9_step M = some M') : M' 0 31 = nI F ∧ ∃ U', M' 0 32 = nI U' ∧ U + 1 ≤ U' ∧ U' ≤ F := by
  have ne : ¬ nI U = nI F := fun q => absurd (nI_eqI (by omega) (by omega) q) (by omega)
  rw [show pX9_step M = (if M 0 32 = M 0 31 then lt (up2 M 0 35 10) fun M4 => some M4 else lt (up2 M 0 32 ((M 0 32) + 1)) fun M1 => mgo M1 (pX9_fault M1)) from rfl, hF, hU, if_neg ne, nI_1, lt_s'] at hs
  have nF : (up2 M 0 32 (nI (U + 1))) 0 31 = nI F := hF
  have nU : (up2 M 0 32 (nI (U + 1))) 0 32 = nI (U + 1) := up2_at _ _ _ _
  generalize up2 M 0 32 (nI (U + 1)) = N at hs nF nU
  have fin : AG N M' → M' 0 31 = nI F ∧ ∃ U', M' 0 32 = nI U' ∧ U + 1 ≤ U' ∧ U' ≤ F := fun a => ⟨a.1.trans nF, U + 1, a.2.trans nU, Nat.le_refl _, hUF⟩
  unfold mgo at hs
  obtain ⟨f, ef, hs⟩ := bn_some hs
  by_cases f0 : f ≤ 0
  · rw [if_pos f0] at hs
    obtain ⟨b, eb, hs⟩ := bn_some hs
    rw [bn_eta] at hs
    by_cases b35 : b = 35
    · subst b35
      rw [show pX9_act N 35 = (bn (pX9_copy N) fun M6 => some M6) from rfl, bn_eta] at hs
      rcases kc_copy hs with a | ⟨v, v1, v2, v3, v4⟩
      · exact fin a
      · by_cases v0 : 0 ≤ v
        · obtain ⟨n, hn, rfl⟩ := nI_of (x := v) (fun q => by rw [Int32.lt_iff_toInt_lt] at q; rw [Int32.le_iff_toInt_le] at v0; omega)
          rw [nF, nU, nI_subN (by omega), nI_leI hn (by omega)] at v2
          refine ⟨v3.trans nF, U + 1 + n, by rw [v4, nU, nI_add], by omega, by omega⟩
        · exact absurd f0 (pz35 eb v1 v0 f ef)
    · exact fin (ks_act AG.rf b35 M' hs)
  · rw [if_neg f0, bn_eta] at hs
    exact fin (ks_throw AG.rf M' hs)
