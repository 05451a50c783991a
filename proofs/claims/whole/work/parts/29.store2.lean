/-! PART II, the store: writes, transactions; instructions 36, 37, 38 -/
theorem wr {C M : St} (h : RE C M) (hp : M 0 11 = 1) : (∃ v, pX5_lastsForWrite C = some (1, up2 C 3 1 v) ∧ pX9_writes M = some (1, up2 M 0 12 v)) ∨ (pX5_lastsForWrite C = some (0, up2 (up2 C 3 1 (-1)) 3 0 0) ∧ pX9_writes M = some (0, up2 (up2 M 0 12 (-1)) 0 11 0)) := by
  have h1 : C 3 1 = M 0 12 := h.s (by decide +kernel)
  have h0 : C 3 0 = 1 := by rw [h.s (a := 3) (j := 0) (b := 0) (i := 11) (by decide +kernel)]; exact hp
  unfold pX5_lastsForWrite pX9_writes
  rw [h1]
  by_cases z : M 0 12 = 0
  · right
    rw [if_pos z, if_pos z]
    exact ⟨rfl, rfl⟩
  · left
    rw [if_neg z, if_neg z]
    by_cases y : M 0 12 ≤ 0
    · refine ⟨M 0 12, ?_, ?_⟩
      · rw [if_pos y, h0, gd_t (by decide), ← h1, up2_self]
      · rw [if_pos y]; rfl
    · refine ⟨M 0 12 - 1, ?_, ?_⟩
      · rw [if_neg y]
        simp only [lt]
        rw [show (up2 C 3 1 (M 0 12 - 1)) 3 0 = 1 from h0, gd_t (by decide)]
      · rw [if_neg y]; rfl
theorem INV.tear {M : St} (h : INV M) (v : Int32) : INV (up2 M 0 12 v) := ⟨h.1, h.2.1, h.2.2.1, h.2.2.2.1, h.2.2.2.2.1, h.2.2.2.2.2⟩
theorem INV.off {M : St} (h : INV M) (v : Int32) : INV (up2 (up2 M 0 12 v) 0 11 0) := ⟨h.1, h.2.1, h.2.2.1, h.2.2.2.1, h.2.2.2.2.1, Or.inl rfl⟩
theorem RE.tear {C M : St} (h : RE C M) (v : Int32) : RE (up2 C 3 1 v) (up2 M 0 12 v) := h.both (by decide +kernel) v
theorem R2.tear {C M : St} {k h : Nat} (r : R2 C M k h) (v : Int32) : R2 (up2 C 3 1 v) (up2 M 0 12 v) k h :=
  r.ag (r.1.1.tear v) (r.1.2.1.tear v) (CA.rf.up (by decide)) (MA.rf.up (by decide))
theorem R1.off {C M : St} {k : Nat} (r : R1 C M k) : RFin (up2 (up2 C 3 1 (-1)) 3 0 0) (up2 (up2 M 0 12 (-1)) 0 11 0) :=
  ⟨(r.1.tear _).both (by decide +kernel) _, r.2.1.off _, Or.inr ⟨rfl, by show C 1 5 = 0; rw [r.1.s (a := 1) (j := 5) (b := 0) (i := 33) (by decide +kernel)]; exact r.2.2.2.1.2.2.2.1, by show C 1 6 = 0; rw [r.1.s (a := 1) (j := 6) (b := 0) (i := 34) (by decide +kernel)]; exact r.2.2.2.1.2.2.2.2.1⟩⟩
theorem RFin.left {C M : St} (h : RFin C M) {a : Nat} (j : Nat) (h1 : 26 ≤ a) (h2 : a < 51) (v : Int32) : RFin (up2 C a j v) M := by
  refine ⟨h.1.leftF j h1 h2 v, h.2.1, ?_⟩
  rw [up2_cell _ _ _ _ _ _ (Or.inl (by omega)), up2_cell _ _ _ _ _ _ (Or.inl (by omega)), up2_cell _ _ _ _ _ _ (Or.inl (by omega))]
  exact h.2.2
-- opening
theorem Iobj.mono {n c n' c' : Nat} {so si ba : Nat → Int32} (h : Iobj n c so si ba) (h1 : n' ≤ n) (h2 : c ≤ c') : Iobj n' c' so si ba := fun k k1 k2 => by
  obtain ⟨q1, s, b, q2, q3, q4, q5, q6⟩ := h k k1 (by omega)
  exact ⟨q1, s, b, q2, q3, by omega, q5, q6⟩
theorem INV.opn {M : St} (h : INV M) : INV (up2 (up2 (up2 (up2 (up2 M 0 13 1) 0 14 0) 0 15 0) 0 18 (M 0 4)) 0 19 (M 0 10)) := by
  obtain ⟨n, c, h1, h2, h3, h4, h5, h6, -⟩ := h.2.2.1
  exact ⟨h.1, h.2.1, ⟨n, c, h1, h2, h3, h4, h5, h6, Or.inr ⟨rfl, 0, 0, n, c, by omega, by omega, rfl, rfl, h1, Nat.le_refl _, Nat.le_refl _, h4, h5, h6, fun z hz => by omega⟩⟩, h.2.2.2⟩
theorem cls3 {C M : St} {k h p j : Nat} (e : EX C M k h p j 1) {C' M' : St} (r : R2 C' M' k h) (hc : CA C C') (hm : MA M M') : R3 C' (up2 M' 15 k (M' 15 k + 1)) k h := by
  have hk := e.k
  refine ⟨r.mp _, ?_⟩
  rw [up2_at, hc.1 _ (by omega) (by omega), e.cp, hm.1 _ (by omega), e.mp]
  exact (nI_1 p).symm
theorem mtr {C M : St} {k h p j len : Nat} (e : EX C M k h p j len) (ha : pX9_act M (nI j) = bn (pX9_transact M (nI j)) fun M1 => some M1) : mgo M (some 0) = pX9_transact M (nI j) := by rw [mgo_0 e, ha, bn_eta]
theorem EX.op {C M : St} {k h p j len : Nat} (e : EX C M k h p j len) : M 0 13 = 0 ∨ M 0 13 = 1 := by
  obtain ⟨n, c, -, -, -, -, -, -, h | ⟨h, -⟩⟩ := e.1.1.2.1.2.2.1
  · exact Or.inl h
  · exact Or.inr h
theorem op_36 {C M : St} {k h p : Nat} (e : EX C M k h p 36 1) : OUT (pX6_changeTransaction C 36) (mgo M (pX9_fault_b464 M 36)) := by
  have ho : C 2 5 = M 0 13 := e.1.1.1.s (by decide +kernel)
  rw [show pX6_changeTransaction C 36 = (if C 2 5 = 1 then some (9, C) else gd (inb (opOrd.getD 36 0) 46) <| bn (pX7_begin C) fun M1 => some (65536, M1)) from rfl, gd_t (by decide), ho, show pX9_fault_b464 M 36 = (if M 0 13 = 1 then some 9 else some 0) from rfl]
  by_cases z : M 0 13 = 1
  · rw [if_pos z, if_pos z]
    exact OUT.thr (S16_nI (n := 9) (by decide)) rfl (mgo_f M (by decide)) e.1.1
  · rw [if_neg z, if_neg z, mtr e rfl]
    have r : R2 (up2 (up2 (up2 (up2 (up2 C 2 5 1) 2 12 0) 2 11 0) 2 13 (M 0 4)) 2 14 (M 0 10)) (up2 (up2 (up2 (up2 (up2 M 0 13 1) 0 14 0) 0 15 0) 0 18 (M 0 4)) 0 19 (M 0 10)) k h :=
      e.1.ag (((((e.1.1.1.both (by decide +kernel) _).both (by decide +kernel) _).both (by decide +kernel) _).both (by decide +kernel) _).both (by decide +kernel) _) e.1.1.2.1.opn (((((CA.rf.up (by decide)).up (by decide)).up (by decide)).up (by decide)).up (by decide)) (((((MA.rf.up (by decide)).up (by decide)).up (by decide)).up (by decide)).up (by decide))
    refine OUT.go (C' := up2 (up2 (up2 (up2 (up2 C 2 5 1) 2 12 0) 2 11 0) 2 13 (M 0 4)) 2 14 (M 0 10)) ?_ ?_ (cls3 e r (((((CA.rf.up (by decide)).up (by decide)).up (by decide)).up (by decide)).up (by decide)) (((((MA.rf.up (by decide)).up (by decide)).up (by decide)).up (by decide)).up (by decide)))
    · rw [show pX7_begin C = some (up2 (up2 (up2 (up2 (up2 C 2 5 1) 2 12 0) 2 11 0) 2 13 (C 2 4)) 2 14 (C 2 8)) from rfl, bn_s, e.1.1.1.s (a := 2) (j := 4) (b := 0) (i := 4) (by decide +kernel), e.1.1.1.s (a := 2) (j := 8) (b := 0) (i := 10) (by decide +kernel)]
    · rw [show pX9_transact M (nI 36) = (bn (pX9_on (up2 (up2 (up2 (up2 (up2 M 0 13 1) 0 14 0) 0 15 0) 0 18 (M 0 4)) 0 19 (M 0 10)) 1) fun M10 => some M10) from rfl, bn_eta, mon (k := k) r.1.m e.k]
theorem op_37 {C M : St} {k h p : Nat} (e : EX C M k h p 37 1) : OUT (pX6_changeTransaction C 37) (mgo M (pX9_fault_b464 M 37)) := by
  have ho : C 2 5 = M 0 13 := e.1.1.1.s (by decide +kernel)
  rw [show pX6_changeTransaction C 37 = (if C 2 5 = 0 then some (9, C) else gd (inb (opOrd.getD 37 0) 46) <| bn (pX7_close C) fun M1 => some (65536, M1)) from rfl, gd_t (by decide), ho, show pX9_fault_b464 M 37 = (if M 0 13 = 0 then some 9 else some 0) from rfl]
  by_cases z : M 0 13 = 0
  · rw [if_pos z, if_pos z]
    exact OUT.thr (S16_nI (n := 9) (by decide)) rfl (mgo_f M (by decide)) e.1.1
  · rw [if_neg z, if_neg z, mtr e rfl, show pX9_transact M (nI 37) = (bn2 (pX9_writes M) fun r1 M1 => if r1 = 0 then some M1 else bn (pX9_on (up2 M1 0 13 0) 1) fun M4 => some M4) from rfl]
    unfold pX7_close
    rcases wr e.1.1.1 e.1.1.2.2.2.1.2.2.2.2.2 with ⟨v, w1, w2⟩ | ⟨w1, w2⟩
    · rw [w1, w2, bn2_s, bn2_s, if_neg (by decide), if_neg (by decide), lt_s', bn_s, bn_eta]
      have i0 : INV (up2 (up2 M 0 12 v) 0 13 0) := by
        obtain ⟨n, c, h1, h2, h3, h4, h5, h6, -⟩ := e.1.1.2.1.2.2.1
        exact ⟨e.1.1.2.1.1, e.1.1.2.1.2.1, ⟨n, c, h1, h2, h3, h4, h5, h6, Or.inl rfl⟩, e.1.1.2.1.2.2.2⟩
      have r : R2 (up2 (up2 C 3 1 v) 2 5 0) (up2 (up2 M 0 12 v) 0 13 0) k h :=
        e.1.ag ((e.1.1.1.tear v).both (by decide +kernel) _) i0 ((CA.rf.up (by decide)).up (by decide)) ((MA.rf.up (by decide)).up (by decide))
      exact OUT.go rfl (mon (k := k) r.1.m e.k _) (cls3 e r ((CA.rf.up (by decide)).up (by decide)) ((MA.rf.up (by decide)).up (by decide)))
    · rw [w1, w2, bn2_s, bn2_s, if_pos rfl, if_pos rfl, bn_s]
      exact OUT.fin rfl rfl e.1.1.off
-- undoing
theorem m1eq (x : Int32) : x + (-1) = x - 1 := (Int32.sub_eq_add_neg x 1).symm
theorem undo_loop (w n : Nat) (hw : w < n) (hw2 : w ≤ 20) : ∀ (C M : St), RE C M → (∀ z, z < w → ∃ a, a < 240 ∧ M 10 z = nI a) → ∃ C1 M1, pX7_undo_b16 n C (nI w - 1) = some (1, up2 (up2 (up2 C1 2 4 (C1 2 13)) 2 8 (C1 2 14)) 2 5 0) ∧ pX9_undoAll_b7 n M (nI w - 1) = some (up2 (up2 (up2 M1 0 4 (M1 0 18)) 0 10 (M1 0 19)) 0 13 0) ∧ RE C1 M1 ∧ CA C C1 ∧ MA M M1 ∧ (∀ b, b ≠ 9 → M1 b = M b) ∧ (∀ a, a ≠ 55 → C1 a = C a) := by
  induction w generalizing n with
  | zero =>
    intro C M h _
    obtain ⟨m, rfl⟩ : ∃ m, n = m + 1 := ⟨n - 1, by omega⟩
    exact ⟨C, M, rfl, rfl, h, CA.rf, MA.rf, fun _ _ => rfl, fun _ _ => rfl⟩
  | succ w ih =>
    intro C M h hz
    obtain ⟨m, rfl⟩ : ∃ m, n = m + 1 := ⟨n - 1, by omega⟩
    obtain ⟨a, ha, ea⟩ := hz w (by omega)
    have r56 : C 56 = M 10 := h.r (by decide +kernel)
    have r57 : C 57 = M 11 := h.r (by decide +kernel)
    have h2 : RE (up2 C 55 a (M 11 w)) (up2 M 9 a (M 11 w)) := h.row (by decide +kernel) a _
    obtain ⟨C1, M1, q1, q2, q3, q4, q5, q6, q7⟩ := ih m (by omega) (by omega) (up2 C 55 a (M 11 w)) (up2 M 9 a (M 11 w)) h2 (fun z hz' => by obtain ⟨b, hb, eb⟩ := hz z (by omega); exact ⟨b, hb, eb⟩)
    refine ⟨C1, M1, ?_, ?_, q3, ?_, ?_, ?_, ?_⟩
    · rw [nI_m1, pX7_undo_b16, if_neg (nI_pos (by omega)), gd_t (inb_nI (by omega) (by decide)), gd_t (inb_nI (by omega) (by decide)), ix_nI (by omega), r56, ea, gd_t (inb_nI ha (by decide)), ix_nI (by omega), lt_s', r57, m1eq]
      exact q1
    · rw [nI_m1, pX9_undoAll_b7, if_neg (nI_pos (by omega)), gd_t (inb_nI (by omega) (by decide)), gd_t (inb_nI (by omega) (by decide)), ix_nI (by omega), ea, gd_t (inb_nI ha (by decide)), ix_nI (by omega), lt_s', m1eq]
      exact q2
    · exact ⟨fun b b1 b2 => by rw [q4.1 b b1 b2, up2_row _ _ _ _ _ (by omega)], by rw [q4.2]; rfl⟩
    · exact ⟨fun b b1 => by rw [q5.1 b b1, up2_row _ _ _ _ _ (by omega)], fun i hi => by rw [q5.2 i hi]; rfl⟩
    · exact fun b hb => by rw [q6 b hb, up2_row _ _ _ _ _ hb]
    · exact fun b hb => by rw [q7 b hb, up2_row _ _ _ _ _ hb]
theorem undo_ok {C M : St} (h : RE C M) (hi : INV M) (ho : M 0 13 = 1) : ∃ C' M', pX7_undo C = some (1, C') ∧ pX9_undoAll M = some M' ∧ RE C' M' ∧ INV M' ∧ CA C C' ∧ MA M M' ∧ (∀ b, b ≠ 9 → b ≠ 0 → M' b = M b) ∧ (∀ i, i ≠ 4 → i ≠ 10 → i ≠ 13 → M' 0 i = M 0 i) ∧ (∀ a, a ≠ 55 → a ≠ 2 → C' a = C a) := by
  have c5 : C 2 5 = M 0 13 := h.s (by decide +kernel)
  have c11 : C 2 11 = M 0 15 := h.s (by decide +kernel)
  obtain ⟨n, c, h1, h2, h3, h4, h5, h6, h7⟩ := hi.2.2.1
  rcases h7 with h7 | ⟨-, t, w, ob, cb, t1, t2, t3, t4, t5, t6, t7, t8, t9, t10, t11⟩
  · rw [ho] at h7; exact absurd h7 (by decide)
  obtain ⟨C1, M1, q1, q2, q3, q4, q5, q6, q7⟩ := undo_loop w LF (by unfold LF; omega) (by omega) C M h t11
  refine ⟨up2 (up2 (up2 C1 2 4 (C1 2 13)) 2 8 (C1 2 14)) 2 5 0, up2 (up2 (up2 M1 0 4 (M1 0 18)) 0 10 (M1 0 19)) 0 13 0, ?_, ?_, ?_, ?_, ?_, ?_, ?_, ?_, ?_⟩
  · unfold pX7_undo
    rw [c5, ho, if_neg (by decide), c11, t4]
    exact q1
  · unfold pX9_undoAll
    rw [t4]
    exact q2
  · have e1 : C1 2 13 = M1 0 18 := q3.s (by decide +kernel)
    have e2 : C1 2 14 = M1 0 19 := q3.s (by decide +kernel)
    have := ((q3.both (a := 2) (j := 4) (b := 0) (i := 4) (by decide +kernel) (C1 2 13)).both (a := 2) (j := 8) (b := 0) (i := 10) (by decide +kernel) (C1 2 14)).both (a := 2) (j := 5) (b := 0) (i := 13) (by decide +kernel) 0
    rw [e1, e2] at this ⊢
    exact this
  · have e18 : M1 0 18 = nI ob := by rw [q6 0 (by decide)]; exact t8
    have e19 : M1 0 19 = nI cb := by rw [q6 0 (by decide)]; exact t9
    refine ⟨?_, ?_, ⟨ob, cb, t5, by omega, by omega, e18, e19, ?_, Or.inl rfl⟩, ?_, ?_, ?_⟩
    · show Ibyte (M1 1); rw [q6 1 (by decide)]; exact hi.1
    · show Imeth (M1 2) (M1 3) (M1 4); rw [q6 2 (by decide), q6 3 (by decide), q6 4 (by decide)]; exact hi.2.1
    · show Iobj ob cb (M1 6) (M1 7) (M1 8); rw [q6 6 (by decide), q6 7 (by decide), q6 8 (by decide)]; exact t10
    · show ∃ n, n ≤ 32 ∧ M1 0 21 = nI n; rw [q6 0 (by decide)]; exact hi.2.2.2.1
    · show ∃ n, n ≤ 32 ∧ M1 0 23 = nI n; rw [q6 0 (by decide)]; exact hi.2.2.2.2.1
    · show M1 0 11 = 0 ∨ M1 0 11 = 1; rw [q6 0 (by decide)]; exact hi.2.2.2.2.2
  · exact ((q4.up (by decide)).up (by decide)).up (by decide)
  · exact ((q5.up (by decide)).up (by decide)).up (by decide)
  · intro b b1 b2
    rw [up2_row _ _ _ _ _ b2, up2_row _ _ _ _ _ b2, up2_row _ _ _ _ _ b2, q6 b b1]
  · intro i i1 i2 i3
    rw [up2_cell _ _ _ _ _ _ (Or.inr i3), up2_cell _ _ _ _ _ _ (Or.inr i2), up2_cell _ _ _ _ _ _ (Or.inr i1), q6 0 (by decide)]
  · intro b b1 b2
    rw [up2_row _ _ _ _ _ b2, up2_row _ _ _ _ _ b2, up2_row _ _ _ _ _ b2, q7 b b1]
theorem op_38 {C M : St} {k h p : Nat} (e : EX C M k h p 38 1) : OUT (pX6_changeTransaction C 38) (mgo M (pX9_fault_b464 M 38)) := by
  have ho : C 2 5 = M 0 13 := e.1.1.1.s (by decide +kernel)
  rw [show pX6_changeTransaction C 38 = (if C 2 5 = 0 then some (9, C) else gd (inb (opOrd.getD 38 0) 46) <| bn2 (pX7_undo C) fun r1 M3 => some (65536, M3)) from rfl, gd_t (by decide), ho, show pX9_fault_b464 M 38 = (if M 0 13 = 0 then some 9 else some 0) from rfl]
  by_cases z : M 0 13 = 0
  · rw [if_pos z, if_pos z]
    exact OUT.thr (S16_nI (n := 9) (by decide)) rfl (mgo_f M (by decide)) e.1.1
  · rw [if_neg z, if_neg z, mtr e rfl, show pX9_transact M (nI 38) = (bn (pX9_undoAll M) fun M1 => bn (pX9_on M1 1) fun M2 => some M2) from rfl]
    obtain ⟨C', M', q1, q2, q3, q4, q5, q6, -⟩ := undo_ok e.1.1.1 e.1.1.2.1 (e.op.resolve_left z)
    have r := e.1.ag q3 q4 q5 q6
    rw [q1, q2, bn2_s, bn_s, bn_eta]
    exact OUT.go rfl (mon (k := k) r.1.m e.k _) (cls3 e r q5 q6)
