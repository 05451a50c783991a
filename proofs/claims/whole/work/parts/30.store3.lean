/-! PART II, the store: instructions 31 and 35 -/
theorem R2.dropAg {C M D N : St} {k h n : Nat} (r : R2 C M k h) (hn : n ≤ h) (hre : RE D N) (hinv : INV N) (hc : CA (up2 C (27 + k) 2 (nI n)) D) (hm : MA M N) : R2 D (up2 N 19 k (nI n)) k n := by
  have hk := r.1.k
  have h16 := r.2.1
  refine ⟨((r.1.ch (nI n)).ag hre hinv hc hm).mh _, by omega, ?_, up2_at _ _ _ _, fun j hj => ?_⟩
  · rw [hc.1 _ (by omega) (by omega), up2_at]
  · rw [hc.1 _ (by omega) (by omega), up2_row _ _ _ _ _ (by omega), up2_cell _ _ _ _ _ _ (Or.inl (by decide)), hm.1 _ (by omega)]
    exact r.2.2.2.2 j (by omega)
theorem RE.D0 {C M : St} {k : Nat} (h : RE C M) (hk : k < 8) (v : Int32) : RE (up2 C (27 + k) 2 v) M := h.leftF 2 (by omega) (by omega) v
/-- pops leave the class's state as it is but for the height -/
theorem EX.d {C M : St} {k h p j len : Nat} (e : EX C M k h p j len) (v : Int32) : (up2 C (27 + k) 2 v) 1 10 = nI k := by
  rw [up2_cell _ _ _ _ _ _ (Or.inl (by omega))]; exact e.f
theorem EX.dv {C M : St} {k h p j len : Nat} (e : EX C M k h p j len) (v : Int32) {n : Nat} (hn : n < h) : (up2 C (27 + k) 2 v) (43 + k) n = M 18 (16 * k + n) := by
  rw [up2_cell _ _ _ _ _ _ (Or.inl (by omega))]; exact (e.st hn).1
theorem EX.pop1 {C M : St} {k h p j len : Nat} (e : EX C M k h p j len) {n m : Nat} (hm : m = n + 1) (hn : n < h) : pX2_pop (up2 C (27 + k) 2 (nI m)) k = some (M 18 (16 * k + n), up2 C (27 + k) 2 (nI n)) := by
  have := e.h16
  subst hm
  rw [cpop (up2_at _ _ _ _) (by omega), up2_twice, e.dv _ hn]
theorem EX.pop0 {C M : St} {k h p j len : Nat} (e : EX C M k h p j len) {n : Nat} (hh : h = n + 1) : pX2_pop C k = some (M 18 (16 * k + n), up2 C (27 + k) 2 (nI n)) := by
  have := e.h16
  subst hh
  rw [cpop e.hh (by omega), (e.st (n := n) (by omega)).1]
theorem Itx.more {n c t w pl : Nat} {t0 w0 ob0 cb0 : Int32} {ca so si ba : Nat → Int32} (h : Itx n c t0 w0 ob0 cb0 ca so si ba) (ht : t0 = nI t) (hw : w0 = nI w) (h20 : t < 20) (hwt : w ≤ t) (hp : pl < 240) : Itx n c (nI (t + 1)) (nI (w + 1)) ob0 cb0 (upd ca w (nI pl)) so si ba := by
  obtain ⟨t', w', ob, cb, t1, t2, t3, t4, t5, t6, t7, t8, t9, t10, t11⟩ := h
  have e2 : w' = w := nI_eqI (by omega) (by omega) (t4.symm.trans hw)
  subst e2
  refine ⟨t + 1, w' + 1, ob, cb, by omega, by omega, rfl, rfl, t5, t6, t7, t8, t9, t10, fun z hz => ?_⟩
  by_cases q : z = w'
  · subst q; exact ⟨pl, hp, by simp [upd]⟩
  · obtain ⟨a, a1, a2⟩ := t11 z (by omega)
    exact ⟨a, a1, by simp [upd, q, a2]⟩
theorem INV.cell {M : St} (h : INV M) (i : Nat) (v : Int32) : INV (up2 M 9 i v) := h
theorem op_31 {C M : St} {k h p : Nat} (e : EX C M k h p 31 1) (ht : 3 ≤ h) : OUT (pX6_useObjects C 31) (mgo M (pX9_fault_b94 M (nI 31))) := by
  obtain ⟨n, rfl⟩ : ∃ n, h = n + 3 := ⟨h - 3, by omega⟩
  have hk := e.k
  have h16 := e.h16
  obtain ⟨a2, a51, a52, a53, a54, a55, a24, aow⟩ := e.rows (nI n)
  have re0 : RE (up2 C (27 + k) 2 (nI n)) M := e.1.1.1.D0 hk _
  have o5 : (up2 C (27 + k) 2 (nI n)) 2 5 = M 0 13 := re0.s (by decide +kernel)
  have o12 : (up2 C (27 + k) 2 (nI n)) 2 12 = M 0 14 := re0.s (by decide +kernel)
  rw [show pX9_fault_b94 M (nI 31) = (bn (pX9_at M 2) fun r2 => bn (pX9_isObject M r2) fun r3 => if r3 = 0 then some 2 else bn (pX9_isShut M r2) fun r4 => if r4 = 0 then (bn (pX9_at M 1) fun i => gd (inb r2 41) <| bn (pX9_isIn i 0 ((M 7 (ix r2)) - 1)) fun r3 => if r3 = 0 then some 3 else (if M 0 13 = 0 then some 0 else if M 0 14 = 20 then some 5 else some 0)) else some 4) from rfl, mat (x := 2) (j := 2) (n := n) e.m e.k e.mh h16 rfl (by omega), bn_s, mat (x := 1) (j := 1) (n := n + 1) e.m e.k e.mh h16 rfl (by omega), show pX6_useObjects C 31 = (bn2 (pX6_writeCell C) fun r5 M5 => some (r5, M5)) from rfl, bn2_eta]
  unfold pX6_writeCell
  rw [ic_of _ e.f hk (by omega), e.pop0 (n := n + 2) rfl, bn2_s, ic_of _ (e.d _) hk (by omega), e.pop1 (n := n + 1) rfl (by omega), bn2_s, ic_of _ (e.d _) hk (by omega), e.pop1 (n := n) rfl (by omega), bn2_s, ic_of _ (e.d _) hk (by omega), aow]
  rcases cellF e (nI n) (M 18 (16 * k + n)) (M 18 (16 * k + (n + 1))) _ _ rfl with ⟨f, f1, f2, f3⟩ | ⟨z, s, b, y, on, oc, z1, zn, n40, c240, er, ei, ys, s16, bs, e7, e8, f2, f3⟩
  · rw [f3, bn_s, if_neg (f234 f1).2.2, if_neg (f234 f1).2.2]
    simp only [bn_s] at f2 ⊢
    rw [f2]
    exact OUT.thr (f234 f1).1 rfl (mgo_f M (f234 f1).2.1) (e.1.1.ch _)
  · rw [f3, bn_s, if_pos rfl]
    simp only [bn_s] at f2 ⊢
    rw [f2]
    unfold pX7_thingFault
    rw [o5, o12]
    by_cases full : ¬ M 0 13 = 0 ∧ M 0 14 = 20
    · rw [if_neg full.1, if_pos full.2, if_neg full.1, if_pos full.2, bn_s, if_neg (by decide)]
      exact OUT.thr (S16_nI (n := 5) (by decide)) rfl (mgo_f M (by decide)) (e.1.1.ch _)
    · have k1 : (if M 0 13 = 0 then some (65536 : Int32) else if M 0 14 = 20 then some 5 else some 65536) = some 65536 := by
        by_cases q : M 0 13 = 0
        · rw [if_pos q]
        · rw [if_neg q, if_neg (fun w => full ⟨q, w⟩)]
      have k2 : (if M 0 13 = 0 then some (0 : Int32) else if M 0 14 = 20 then some 5 else some 0) = some 0 := by
        by_cases q : M 0 13 = 0
        · rw [if_pos q]
        · rw [if_neg q, if_neg (fun w => full ⟨q, w⟩)]
      rw [k1, k2, bn_s, if_pos rfl, mgo_0 e, show pX9_act M (nI 31) = (bn (pX9_store M) fun M7 => some M7) from rfl, bn_eta]
      unfold pX7_write pX9_store
      rw [mat (x := 2) (j := 2) (n := n) e.m e.k e.mh h16 rfl (by omega), bn_s, mat (x := 0) (j := 0) (n := n + 2) e.m e.k e.mh h16 rfl (by omega), bn_s, er, gd_t (inb_nI (by omega) (by decide)), mat (x := 1) (j := 1) (n := n + 1) e.m e.k e.mh h16 rfl (by omega), bn_s, ei, ix_nI (show z < 2 ^ 31 by omega), e8, nI_add]
      generalize hx : M 18 (16 * k + (n + 2)) = x
      have pl240 : b + y < 240 := by omega
      rcases wr re0 e.1.1.2.2.2.1.2.2.2.2.2 with ⟨v, w1, w2⟩ | ⟨w1, w2⟩
      · rw [w1, w2, bn2_s, bn2_s, if_neg (show ¬ (1 : Int32) = 0 by decide), if_neg (show ¬ (1 : Int32) = 0 by decide), gd_t (inb_nI (by omega) (by decide)), show (up2 (up2 C (27 + k) 2 (nI n)) 3 1 v) 2 5 = M 0 13 from o5, show (up2 (up2 C (27 + k) 2 (nI n)) 3 1 v) 54 = M 8 from a54, e8, nI_add, show (up2 M 0 12 v) 0 13 = M 0 13 from rfl]
        by_cases q : M 0 13 = 0
        · rw [if_pos q, if_pos q]
          have key : ∃ wv, pX7_write_b75 (up2 (up2 C (27 + k) 2 (nI n)) 3 1 v) (nI z) x (nI (b + y)) = some (up2 (up2 (up2 C (27 + k) 2 (nI n)) 3 1 v) 55 (b + y) wv) ∧ pX9_store_b85 (up2 M 0 12 v) (nI z) x (nI (b + y)) = some (up2 (up2 (up2 (up2 M 0 12 v) 9 (b + y) wv) 19 k (nI n)) 15 k (nI (p + 1))) := by
            unfold pX7_write_b75 pX9_store_b85
            have gz : inb (nI z) 41 = true := inb_nI (by omega) (by decide)
            have gy : inb (nI (b + y)) 240 = true := inb_nI pl240 (by decide)
            simp only [gd_t gz, gd_t gy, ix_nI (show z < 2 ^ 31 by omega), ix_nI (show b + y < 2 ^ 31 by omega), lt_s']
            rw [show (up2 (up2 C (27 + k) 2 (nI n)) 3 1 v) 52 = M 6 from a52, show (up2 M 0 12 v) 6 = M 6 from rfl, mdrop (M := up2 (up2 M 0 12 v) 9 (b + y) _) (k := k) (h := n + 3) (x := 3) (n := 3) e.m e.k e.mh rfl (by omega), mdrop (M := up2 (up2 M 0 12 v) 9 (b + y) _) (k := k) (h := n + 3) (x := 3) (n := 3) e.m e.k e.mh rfl (by omega), bn_s, bn_s, bn_eta, bn_eta, Nat.add_sub_cancel, mon (M := up2 (up2 (up2 M 0 12 v) 9 (b + y) _) 19 k (nI n)) (k := k) e.m e.k, mon (M := up2 (up2 (up2 M 0 12 v) 9 (b + y) _) 19 k (nI n)) (k := k) e.m e.k]
            have ep : M 15 k + 1 = nI (p + 1) := by rw [e.mp]; exact nI_1 p
            by_cases so : M 6 z = 1
            · rw [if_pos so, if_pos so]
              exact ⟨_, rfl, by rw [← ep]; rfl⟩
            · rw [if_neg so, if_neg so]
              exact ⟨_, rfl, by rw [← ep]; rfl⟩
          obtain ⟨wv, g1, g2⟩ := key
          rw [g1, g2, bn_s]
          have r := e.1.dropAg (n := n) (by omega) ((re0.tear v).row (a := 55) (b := 9) (by decide +kernel) (b + y) wv) ((e.1.1.2.1.tear v).cell (b + y) wv) ((CA.rf.up (by decide)).up (by decide)) ((MA.rf.up (by decide)).upr (by decide) (by decide))
          refine OUT.go rfl rfl ⟨r.mp (nI (p + 1)), ?_⟩
          rw [up2_at, up2_cell _ _ _ _ _ _ (Or.inl (by omega)), up2_cell _ _ _ _ _ _ (Or.inl (by omega)), up2_cell _ _ _ _ _ _ (Or.inr (by decide)), e.cp]
        · rw [if_neg q, if_neg q]
          obtain ⟨on', oc', g4, g40, g240, g5, g6, g7, g8⟩ := e.1.1.2.1.2.2.1
          rcases g8 with g8 | ⟨-, g9⟩
          · exact absurd g8 q
          have g10 := g9
          obtain ⟨t, w, ob, cb, t1, t2, t3, t4, -⟩ := g10
          have t20 : t < 20 := by
            rcases Nat.lt_or_ge t 20 with u | u
            · exact u
            · exact absurd ⟨q, by rw [t3, show t = 20 by omega]; rfl⟩ full
          have o11 : (up2 (up2 C (27 + k) 2 (nI n)) 3 1 v) 2 11 = nI w := by rw [← t4]; exact re0.s (by decide +kernel)
          rw [o11, gd_t (inb_nI (by omega) (by decide)), ix_nI (show w < 2 ^ 31 by omega), lt_s', gd_t (inb_nI pl240 (by decide)), show (up2 (up2 (up2 C (27 + k) 2 (nI n)) 3 1 v) 56 w (nI (b + y))) 2 11 = nI w from o11, gd_t (inb_nI (by omega) (by decide)), ix_nI (show w < 2 ^ 31 by omega), ix_nI (show b + y < 2 ^ 31 by omega), lt_s', show (up2 (up2 (up2 C (27 + k) 2 (nI n)) 3 1 v) 56 w (nI (b + y))) 55 = M 9 from a55, lt_s', lt_s', show (up2 (up2 (up2 (up2 C (27 + k) 2 (nI n)) 3 1 v) 56 w (nI (b + y))) 57 w (M 9 (b + y))) 2 11 = nI w from o11, nI_1]
          rw [show (up2 (up2 (up2 (up2 (up2 C (27 + k) 2 (nI n)) 3 1 v) 56 w (nI (b + y))) 57 w (M 9 (b + y))) 2 11 (nI (w + 1))) 2 12 = nI t from o12.trans t3, nI_1]
          rw [lt_s', show (up2 M 0 12 v) 0 14 = nI t from t3, nI_1, show (up2 (up2 M 0 12 v) 0 14 (nI (t + 1))) 0 15 = nI w from t4, gd_t (inb_nI (by omega) (by decide)), ix_nI (show w < 2 ^ 31 by omega), lt_s', gd_t (inb_nI pl240 (by decide)), show (up2 (up2 (up2 M 0 12 v) 0 14 (nI (t + 1))) 10 w (nI (b + y))) 0 15 = nI w from t4, gd_t (inb_nI (by omega) (by decide)), ix_nI (show w < 2 ^ 31 by omega), lt_s', show (up2 (up2 (up2 M 0 12 v) 0 14 (nI (t + 1))) 10 w (nI (b + y))) 9 = M 9 from rfl, lt_s', show (up2 (up2 (up2 (up2 M 0 12 v) 0 14 (nI (t + 1))) 10 w (nI (b + y))) 11 w (M 9 (b + y))) 0 15 = nI w from t4, nI_1]
          rw [up2_comm (a := 0) (b := 10) (up2 M 0 12 v) _ _ (Or.inl (by decide)), up2_comm (a := 0) (b := 11) _ (nI (t + 1)) _ (Or.inl (by decide)), up2_comm (a := 0) (b := 0) (j := 14) (i := 15) _ (nI (t + 1)) _ (Or.inr (by decide))]
          have hRE : RE (up2 (up2 (up2 (up2 (up2 (up2 C (27 + k) 2 (nI n)) 3 1 v) 56 w (nI (b + y))) 57 w (M 9 (b + y))) 2 11 (nI (w + 1))) 2 12 (nI (t + 1))) (up2 (up2 (up2 (up2 (up2 M 0 12 v) 10 w (nI (b + y))) 11 w (M 9 (b + y))) 0 15 (nI (w + 1))) 0 14 (nI (t + 1))) :=
            ((((re0.tear v).row (a := 56) (b := 10) (by decide +kernel) w _).row (a := 57) (b := 11) (by decide +kernel) w _).both (by decide +kernel) _).both (by decide +kernel) _
          have hCA : CA (up2 C (27 + k) 2 (nI n)) (up2 (up2 (up2 (up2 (up2 (up2 C (27 + k) 2 (nI n)) 3 1 v) 56 w (nI (b + y))) 57 w (M 9 (b + y))) 2 11 (nI (w + 1))) 2 12 (nI (t + 1))) := ((((CA.rf.up (by decide)).up (by decide)).up (by decide)).up (by decide)).up (by decide)
          have hMA : MA M (up2 (up2 (up2 (up2 (up2 M 0 12 v) 10 w (nI (b + y))) 11 w (M 9 (b + y))) 0 15 (nI (w + 1))) 0 14 (nI (t + 1))) := ((((MA.rf.up (by decide)).upr (by decide) (by decide)).upr (by decide) (by decide)).up (by decide)).up (by decide)
          have hINV : INV (up2 (up2 (up2 (up2 (up2 M 0 12 v) 10 w (nI (b + y))) 11 w (M 9 (b + y))) 0 15 (nI (w + 1))) 0 14 (nI (t + 1))) := by
            have i0 := e.1.1.2.1
            refine ⟨i0.1, i0.2.1, ⟨on', oc', g4, g40, g240, g5, g6, g7, Or.inr ⟨?_, ?_⟩⟩, i0.2.2.2⟩
            · exact (e.op.resolve_left q)
            · have := g9.more (pl := b + y) t3 t4 t20 t2 pl240
              rw [show (up2 (up2 (up2 (up2 (up2 M 0 12 v) 10 w (nI (b + y))) 11 w (M 9 (b + y))) 0 15 (nI (w + 1))) 0 14 (nI (t + 1))) 10 = upd (M 10) w (nI (b + y)) from rfl]
              exact this
          generalize hD : up2 (up2 (up2 (up2 (up2 (up2 C (27 + k) 2 (nI n)) 3 1 v) 56 w (nI (b + y))) 57 w (M 9 (b + y))) 2 11 (nI (w + 1))) 2 12 (nI (t + 1)) = D at hRE hCA ⊢
          generalize hN : up2 (up2 (up2 (up2 (up2 M 0 12 v) 10 w (nI (b + y))) 11 w (M 9 (b + y))) 0 15 (nI (w + 1))) 0 14 (nI (t + 1)) = N at hRE hMA hINV ⊢
          have n24 : N 0 24 = nI (k + 1) := (hMA.2 24 (by omega)).trans e.m
          have n19 : N 19 k = nI (n + 3) := by rw [hMA.1 _ (by decide)]; exact e.mh
          have n15 : N 15 k = nI p := by rw [hMA.1 _ (by decide)]; exact e.mp
          have key : ∃ wv, pX7_write_b75 D (nI z) x (nI (b + y)) = some (up2 D 55 (b + y) wv) ∧ pX9_store_b85 N (nI z) x (nI (b + y)) = some (up2 (up2 (up2 N 9 (b + y) wv) 19 k (nI n)) 15 k (nI (p + 1))) := by
            unfold pX7_write_b75 pX9_store_b85
            have d52 : D 52 = N 6 := hRE.r (by decide +kernel)
            have gz : inb (nI z) 41 = true := inb_nI (by omega) (by decide)
            have gy : inb (nI (b + y)) 240 = true := inb_nI pl240 (by decide)
            simp only [gd_t gz, gd_t gy, ix_nI (show z < 2 ^ 31 by omega), ix_nI (show b + y < 2 ^ 31 by omega), lt_s']
            rw [d52, mdrop (M := up2 N 9 (b + y) _) (k := k) (h := n + 3) (x := 3) (n := 3) n24 e.k n19 rfl (by omega), mdrop (M := up2 N 9 (b + y) _) (k := k) (h := n + 3) (x := 3) (n := 3) n24 e.k n19 rfl (by omega), bn_s, bn_s, bn_eta, bn_eta, Nat.add_sub_cancel, mon (M := up2 (up2 N 9 (b + y) _) 19 k (nI n)) (k := k) n24 e.k, mon (M := up2 (up2 N 9 (b + y) _) 19 k (nI n)) (k := k) n24 e.k]
            have ep : N 15 k + 1 = nI (p + 1) := by rw [n15]; exact nI_1 p
            by_cases so : N 6 z = 1
            · rw [if_pos so, if_pos so]
              exact ⟨_, rfl, by rw [← ep]; rfl⟩
            · rw [if_neg so, if_neg so]
              exact ⟨_, rfl, by rw [← ep]; rfl⟩
          obtain ⟨wv, g1, g2⟩ := key
          rw [g1, g2, bn_s]
          have hCA' : CA (up2 C (27 + k) 2 (nI n)) (up2 D 55 (b + y) wv) := hCA.up (by decide)
          have r := e.1.dropAg (n := n) (by omega) (hRE.row (a := 55) (b := 9) (by decide +kernel) (b + y) wv) (hINV.cell (b + y) wv) hCA' (hMA.upr (by decide) (by decide))
          refine OUT.go rfl rfl ⟨r.mp (nI (p + 1)), ?_⟩
          rw [up2_at, hCA'.1 _ (by omega) (by omega), up2_cell _ _ _ _ _ _ (Or.inr (by decide)), e.cp]
      · rw [w1, w2, bn2_s, bn2_s, if_pos rfl, if_pos rfl, bn_s]
        exact OUT.fin rfl rfl (e.1.1.ch _).off
