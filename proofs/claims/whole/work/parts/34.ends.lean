/-! PART II, ends of frames, and what is thrown; instructions 25 and 26 -/
theorem R1.pop {C M : St} {k : Nat} (r : R1 C M (k + 1)) : R1 (up2 (up2 C 1 9 (nI (k + 1))) 1 10 (nI k)) (up2 M 0 24 (nI (k + 1))) k ∧ FRd (up2 (up2 C 1 9 (nI (k + 1))) 1 10 (nI k)) (up2 M 0 24 (nI (k + 1))) k := by
  obtain ⟨hre, hinv, ⟨hk, h1, h2, h3⟩, ⟨g1, g2, g3, g4, g5, g6⟩, hs, hd⟩ := r
  have cr : ∀ a, a ≠ 1 → (up2 (up2 C 1 9 (nI (k + 1))) 1 10 (nI k)) a = C a := fun a h => by rw [up2_row _ _ _ _ _ h, up2_row _ _ _ _ _ h]
  have c1 : ∀ i, i ≠ 9 → i ≠ 10 → (up2 (up2 C 1 9 (nI (k + 1))) 1 10 (nI k)) 1 i = C 1 i := fun i a b => by rw [up2_cell _ _ _ _ _ _ (Or.inr b), up2_cell _ _ _ _ _ _ (Or.inr a)]
  have mr : ∀ b, b ≠ 0 → (up2 M 0 24 (nI (k + 1))) b = M b := fun b h => up2_row _ _ _ _ _ h
  have m0 : ∀ i, i ≠ 24 → (up2 M 0 24 (nI (k + 1))) 0 i = M 0 i := fun i h => up2_cell _ _ _ _ _ _ (Or.inr h)
  have c9 : (up2 (up2 C 1 9 (nI (k + 1))) 1 10 (nI k)) 1 9 = nI (k + 1) := by rw [up2_cell _ _ _ _ _ _ (Or.inr (by decide)), up2_at]
  have c10 : (up2 (up2 C 1 9 (nI (k + 1))) 1 10 (nI k)) 1 10 = nI k := up2_at _ _ _ _
  have m24 : (up2 M 0 24 (nI (k + 1))) 0 24 = nI (k + 1) := up2_at _ _ _ _
  generalize up2 (up2 C 1 9 (nI (k + 1))) 1 10 (nI k) = C' at *
  generalize up2 M 0 24 (nI (k + 1)) = M' at *
  have hre' : RE C' M' := hre.rows' (fun a _ h => cr a h) (fun j hj => c1 j (by omega) (by omega)) (fun b _ h => mr b h) m0
  have hfr : ∀ i, i ≤ k → FRs C' M' i := fun i hi => by
    have := hs i (by omega)
    unfold FRs at this ⊢
    rw [cr (27 + i) (by omega), cr (35 + i) (by omega), mr 14 (by decide), mr 16 (by decide), mr 20 (by decide), mr 17 (by decide)]
    exact this
  have hfd : ∀ i, i ≤ k → FRd C' M' i := fun i hi => by
    have := hd i (by omega)
    unfold FRd FSt at this ⊢
    rw [cr (27 + i) (by omega), cr (43 + i) (by omega), mr 15 (by decide), mr 19 (by decide), mr 18 (by decide)]
    exact this
  refine ⟨⟨hre', hinv.rows (fun b _ h => mr b h) m0, ⟨by omega, c9, m24, c10⟩, ⟨?_, ?_, ?_, ?_, ?_, ?_⟩, hfr, fun i hi => hfd i (by omega)⟩, hfd k (Nat.le_refl _)⟩
  · rw [c1 12 (by decide) (by decide), m0 31 (by decide)]; exact g1
  · rw [c1 13 (by decide) (by decide)]; exact g2
  · rw [m0 35 (by decide)]; exact g3
  · rw [m0 33 (by decide)]; exact g4
  · rw [m0 34 (by decide)]; exact g5
  · rw [m0 11 (by decide)]; exact g6
theorem cleave_s {C : St} {k : Nat} (h : C 1 9 = nI (k + 2)) (hk : k < 8) : pX6_leave C = some (up2 (up2 C 1 9 (nI (k + 1))) 1 10 (nI k)) := by
  unfold pX6_leave
  rw [h, show nI (k + 2) - 1 = nI (k + 1) from nI_m1 (k + 1), lt_s', up2_at, if_neg (nI_nle (by omega) (by omega)), nI_m1, ic_nI _ hk (by decide)]
  rfl
theorem cleave_0 {C : St} (h : C 1 9 = nI 1) : pX6_leave C = some (up2 C 1 9 0) := by
  unfold pX6_leave
  rw [h, show nI 1 - 1 = 0 by decide, lt_s', up2_at, if_pos (by decide)]
theorem throwIt_eq (M : St) (v : Int32) : pX9_throwIt M v = pX9_throwIt_b0 (LF + 1) M v := by
  unfold pX9_throwIt
  rw [pX9_throwIt_b0]
theorem thrH {C M : St} {k : Nat} (r : R1 C M k) (a1 : C (27 + k) 5 = M 20 k) (v : Int32) : ∃ C' M', (ic (C 1 10) 8 fun k2 => bn (pX2_handle C k2 v) fun M4 => some M4) = some C' ∧ (bn (some (nI k)) fun r2 => gd (inb r2 8) <| lt (up2 M 19 (ix r2) 0) fun M4 => bn (pX9_put M4 v) fun M5 => bn (pX9_top M5) fun r3 => bn (pX9_top M5) fun r4 => gd (inb r4 8) <| gd (inb r3 8) <| lt (up2 M5 15 (ix r3) (M5 20 (ix r4))) fun M6 => bn (pX9_top M6) fun r5 => gd (inb r5 8) <| lt (up2 M6 16 (ix r5) (-1)) fun M7 => some M7) = some M' ∧ RS C' M' := by
  have hk := r.k
  have gk : inb (nI k) 8 = true := inb_nI hk (by decide)
  have ik : ix (nI k) = k := ix_nI (by omega)
  have r0 : R2 (up2 C (27 + k) 2 (nI 0)) (up2 M 19 k (nI 0)) k 0 := ⟨(r.ch (nI 0)).mh (nI 0), Nat.zero_le _, up2_at _ _ _ _, up2_at _ _ _ _, fun j hj => absurd hj (Nat.not_lt_zero _)⟩
  have r1 := r0.push (by decide) (S16_of v)
  have m24 : (up2 (up2 (up2 M 19 k (nI 0)) 18 (16 * k + 0) v.toInt16.toInt32) 19 k (nI (0 + 1))) 0 24 = nI (k + 1) := r.m
  have c5 : (up2 (up2 (up2 C (27 + k) 2 (nI 0)) (43 + k) 0 v.toInt16.toInt32) (27 + k) 2 (nI (0 + 1))) (27 + k) 5 = M 20 k := by
    rw [up2_cell _ _ _ _ _ _ (Or.inr (by decide)), up2_cell _ _ _ _ _ _ (Or.inl (by omega)), up2_cell _ _ _ _ _ _ (Or.inr (by decide))]; exact a1
  have m20 : (up2 (up2 (up2 M 19 k (nI 0)) 18 (16 * k + 0) v.toInt16.toInt32) 19 k (nI (0 + 1))) 20 = M 20 := by
    rw [up2_row _ _ _ _ _ (by decide), up2_row _ _ _ _ _ (by decide), up2_row _ _ _ _ _ (by decide)]
  have p1 : pX2_push (up2 C (27 + k) 2 0) k v = some (up2 (up2 (up2 C (27 + k) 2 (nI 0)) (43 + k) 0 v.toInt16.toInt32) (27 + k) 2 (nI (0 + 1))) := cpush (C := up2 C (27 + k) 2 (nI 0)) (up2_at _ _ _ _) (by decide) v
  have p2 : pX9_put (up2 M 19 k 0) v = some (up2 (up2 (up2 M 19 k (nI 0)) 18 (16 * k + 0) v.toInt16.toInt32) 19 k (nI (0 + 1))) := mput (M := up2 M 19 k (nI 0)) r.m hk (up2_at _ _ _ _) (by decide) v
  unfold pX2_handle
  rw [ic_of _ r.f hk (by omega), bn_s, gd_t gk, ik]
  simp only [lt_s']
  rw [p1, p2, bn_s, bn_s]
  generalize up2 (up2 (up2 C (27 + k) 2 (nI 0)) (43 + k) 0 v.toInt16.toInt32) (27 + k) 2 (nI (0 + 1)) = D at *
  generalize up2 (up2 (up2 M 19 k (nI 0)) 18 (16 * k + 0) v.toInt16.toInt32) 19 k (nI (0 + 1)) = N at *
  have m24' : (up2 N 15 k (M 20 k)) 0 24 = nI (k + 1) := m24
  rw [bn_s, mtop m24, bn_s, bn_s, gd_t gk, gd_t gk, ik, m20, mtop m24', bn_s, gd_t gk, ik, c5]
  refine ⟨_, _, rfl, rfl, Or.inl ⟨k, 1, ((r1.cp (M 20 k)).mp (M 20 k)).hset (x := MIN) (fun b h1 h2 => up2_row _ _ _ _ _ h1) (fun i hi => ⟨up2_cell _ _ _ _ _ _ (Or.inr hi), rfl⟩) (Or.inl ⟨rfl, up2_at _ _ _ _⟩), ?_⟩⟩
  rw [up2_cell _ _ _ _ _ _ (Or.inr (by decide)), up2_at, up2_row _ _ _ _ _ (by decide), up2_at]
theorem thrL {v : Int32} (hv : S16 v) (k : Nat) : ∀ (N N' : Nat) (C M : St), k + 1 < N → k + 1 < N' → R1 C M k → ∃ C' M', pX6_raise_b5 N C v (nI (k + 1)) = some C' ∧ pX9_throwIt_b0 N' M v = some M' ∧ RS C' M' := by
  induction k with
  | zero =>
    intro N N' C M hN hN' r
    obtain ⟨m, rfl⟩ : ∃ m, N = (m + 1) + 1 := ⟨N - 2, by omega⟩
    obtain ⟨m', rfl⟩ : ∃ m, N' = (m + 1) + 1 := ⟨N' - 2, by omega⟩
    rw [pX6_raise_b5, if_neg (nI_nle (by omega) (by omega)), ic_of _ r.f r.k (by omega), pX9_throwIt_b0, r.m, if_neg (nI_nle (by omega) (by omega)), mtop r.m, bn_s, gd_t (inb_nI r.k (by decide)), ix_nI (by decide)]
    rcases (r.2.2.2.2.1 0 (Nat.le_refl _)).2.1 with ⟨a1, a2⟩ | ⟨a1, a2, a3⟩
    · have z : (up2 M 0 24 (nI (0 + 1) - 1)) 0 24 ≤ 0 := by rw [up2_at]; decide
      rw [if_pos a1, if_pos a2, cleave_0 r.2.2.1.2.1, bn_s, pX6_raise_b5, if_pos (by decide), lt_s', lt_s', lt_s', pX9_throwIt_b0, if_pos z, lt_s', lt_s', show v.toInt16.toInt32 = v from hv, show nI (0 + 1) - 1 = 0 by decide]
      refine ⟨_, _, rfl, rfl, Or.inr ⟨?_, r.2.1, Or.inl ⟨r.2.2.2.1.2.2.2.2.2, rfl, Or.inr (Or.inr rfl)⟩⟩⟩
      exact ((((r.1.left (a := 1) (j := 9) (by decide +kernel) (by decide +kernel) _).right (b := 0) (i := 24) (by decide +kernel) (by decide +kernel) _).left (a := 1) (j := 13) (by decide +kernel) (by decide +kernel) _).right (b := 0) (i := 35) (by decide +kernel) (by decide +kernel) _).both (by decide +kernel) _
    · rw [if_neg a3, if_neg (show ¬ M 16 0 = -1 by rw [a2]; decide)]
      exact thrH r a1 v
  | succ k ih =>
    intro N N' C M hN hN' r
    obtain ⟨m, rfl⟩ : ∃ m, N = m + 1 := ⟨N - 1, by omega⟩
    obtain ⟨m', rfl⟩ : ∃ m, N' = m + 1 := ⟨N' - 1, by omega⟩
    have hk := r.k
    rw [pX6_raise_b5, if_neg (nI_nle (by omega) (by omega)), ic_of _ r.f r.k (by omega), pX9_throwIt_b0, r.m, if_neg (nI_nle (by omega) (by omega)), mtop r.m, bn_s, gd_t (inb_nI r.k (by decide)), ix_nI (by omega)]
    rcases (r.2.2.2.2.1 (k + 1) (Nat.le_refl _)).2.1 with ⟨a1, a2⟩ | ⟨a1, a2, a3⟩
    · rw [if_pos a1, if_pos a2, cleave_s r.2.2.1.2.1 (by omega), bn_s, m1eq, show nI (k + 1 + 1) - 1 = nI (k + 1) from nI_m1 (k + 1), lt_s']
      exact ih m m' _ _ (by omega) (by omega) r.pop.1
    · rw [if_neg a3, if_neg (show ¬ M 16 (k + 1) = -1 by rw [a2]; decide)]
      exact thrH r a1 v
theorem thr_ok {C M : St} {k : Nat} {v : Int32} (hv : S16 v) (r : R1 C M k) : ∃ C' M', pX6_raise C v = some C' ∧ pX9_throwIt M v = some M' ∧ RS C' M' := by
  unfold pX6_raise
  rw [r.2.2.1.2.1, throwIt_eq]
  have := r.k
  exact thrL hv k LF (LF + 1) C M (by unfold LF; omega) (by unfold LF; omega) r
/-- the class's step, with what it throws raised -/
def cgo (x : Option (Int32 × St)) : Option St := bn2 x fun r M1 => if r = 65536 then some M1 else pX6_raise M1 r
theorem OUT.go' {cr : Option (Int32 × St)} {mr : Option St} (o : OUT cr mr) : ∃ C' M', cgo cr = some C' ∧ mr = some M' ∧ RS C' M' := by
  rcases o with ⟨C', M', h1, h2, h3⟩ | ⟨v, C', M'', k', hv, h1, h2, h3⟩
  · refine ⟨C', M', ?_, h2, h3⟩
    unfold cgo
    rw [h1, bn2_s, if_pos rfl]
  · obtain ⟨C2, M2, q1, q2, q3⟩ := thr_ok hv h3
    refine ⟨C2, M2, ?_, h2.trans q2, q3⟩
    unfold cgo
    rw [h1, bn2_s, if_neg (S16_ne hv)]
    exact q1
theorem op_25 {C M : St} {k h p : Nat} (e : EX C M k h p 25 1) : OUT (pX6_callOrEnd C 25) (mgo M (some 0)) := by
  have r := e.1.1
  rw [mgo_0 e, show pX9_act M (nI 25) = (bn (pX9_leave M 0) fun M2 => some M2) from rfl, bn_eta, show pX9_leave M 0 = (lt (up2 M 0 24 ((M 0 24) - 1)) fun M1 => if M1 0 24 = 0 then lt (up2 M1 0 35 0) fun M5 => lt (up2 M5 0 34 0) fun M6 => some M6 else some M1) from rfl, show pX6_callOrEnd C 25 = (bn2 (pX6_end C) fun r1 M1 => some (r1, M1)) from rfl, bn2_eta, e.m, nI_m1, lt_s', up2_at]
  unfold pX6_end
  cases k with
  | zero =>
    rw [cleave_0 r.2.2.1.2.1, bn_s, up2_at, if_pos rfl, if_pos (show nI 0 = 0 from rfl), lt_s', lt_s', lt_s', up2_same' (a := 0) (j := 34) (show (up2 (up2 M 0 24 (nI 0)) 0 35 0) 0 34 = 0 from r.2.2.2.1.2.2.2.2.1)]
    exact OUT.fin rfl rfl ⟨(((r.1.left (a := 1) (j := 9) (by decide +kernel) (by decide +kernel) _).right (b := 0) (i := 24) (by decide +kernel) (by decide +kernel) _).left (a := 1) (j := 13) (by decide +kernel) (by decide +kernel) _).right (b := 0) (i := 35) (by decide +kernel) (by decide +kernel) _, r.2.1, Or.inl ⟨r.2.2.2.1.2.2.2.2.2, rfl, Or.inl rfl⟩⟩
  | succ k =>
    have hk := r.k
    obtain ⟨p1, p2, hh, p3⟩ := r.pop
    have c9 : (up2 (up2 C 1 9 (nI (k + 1))) 1 10 (nI k)) 1 9 = nI (k + 1) := p1.2.2.1.2.1
    have nz : ¬ nI (k + 1) = 0 := nI_ne0 (by omega) (by omega)
    rw [cleave_s r.2.2.1.2.1 (by omega), bn_s, c9, if_neg nz, if_neg nz]
    exact OUT.go rfl rfl ⟨⟨p1, p3⟩, p2⟩
theorem op_26 {C M : St} {k h p : Nat} (e : EX C M k h p 26 1) (ht : 1 ≤ h) : OUT (pX6_callOrEnd C 26) (mgo M (some 0)) := by
  obtain ⟨n, rfl⟩ : ∃ n, h = n + 1 := ⟨h - 1, by omega⟩
  have h16 := e.h16
  have hk := e.k
  have r := e.1.1.ch (nI n)
  have q := e.st (n := n) (by omega)
  rw [mgo_0 e, show pX9_act M (nI 26) = (bn (bn (pX9_at M 0) fun r1 => lt (up2 M 0 24 ((M 0 24) - 1)) fun M1 => if M1 0 24 = 0 then lt (up2 M1 0 35 0) fun M5 => lt (up2 M5 0 34 r1) fun M6 => some M6 else bn (pX9_depth M1) fun r2 => if r2 = 16 then bn (pX9_throwIt M1 6) fun M4 => some M4 else bn (pX9_put M1 r1) fun M3 => some M3) fun M2 => some M2) from rfl, bn_eta, mat (x := 0) (j := 0) (n := n) e.m hk e.mh h16 rfl (by omega), bn_s, e.m, nI_m1, lt_s', up2_at, show pX6_callOrEnd C 26 = (ic (C 1 10) 8 fun k1 => bn2 (pX2_pop C k1) fun r2 M2 => bn2 (pX6_endWith M2 r2) fun r3 M3 => some (r3, M3)) from rfl, ic_of _ e.f hk (by omega), e.pop0 rfl, bn2_s, bn2_eta]
  generalize hx : M 18 (16 * k + n) = x at q ⊢
  unfold pX6_endWith pX6_end
  cases k with
  | zero =>
    rw [cleave_0 r.2.2.1.2.1, bn_s, up2_at, if_pos rfl, lt_s', bn2_s, if_pos (show (up2 (up2 (up2 C (27 + 0) 2 (nI n)) 1 9 0) 1 13 0) 1 9 = 0 from rfl), lt_s', if_pos (show nI 0 = 0 from rfl), lt_s', lt_s']
    exact OUT.fin rfl rfl ⟨((((r.1.left (a := 1) (j := 9) (by decide +kernel) (by decide +kernel) _).right (b := 0) (i := 24) (by decide +kernel) (by decide +kernel) _).left (a := 1) (j := 13) (by decide +kernel) (by decide +kernel) _).right (b := 0) (i := 35) (by decide +kernel) (by decide +kernel) _).both (by decide +kernel) _, r.2.1, Or.inl ⟨r.2.2.2.1.2.2.2.2.2, rfl, Or.inl rfl⟩⟩
  | succ k =>
    obtain ⟨p1, p2, hh, p3⟩ := r.pop
    have nz : ¬ nI (k + 1) = 0 := nI_ne0 (by omega) (by omega)
    rw [cleave_s r.2.2.1.2.1 (by omega), bn_s, p1.2.2.1.2.1, if_neg nz, bn2_s, p1.2.2.1.2.1, if_neg nz, if_neg nz]
    generalize up2 (up2 (up2 C (27 + (k + 1)) 2 (nI n)) 1 9 (nI (k + 1))) 1 10 (nI k) = D at *
    generalize up2 M 0 24 (nI (k + 1)) = N at *
    rw [ic_of _ p1.f p1.k (by omega), chasRoom p3.2.1 p3.1, bn_s, mdepth p1.m p1.k p3.2.2.1, bn_s]
    by_cases w : hh = 16
    · rw [if_pos w, if_pos rfl, if_pos (by rw [w]; rfl), bn_eta]
      exact OUT.thr (S16_nI (n := 6) (by decide)) rfl rfl p1
    · have w16 : hh < 16 := by have := p3.1; omega
      rw [if_neg w, if_neg (show ¬ (1 : Int32) = 0 by decide), if_neg (show ¬ nI hh = 16 from fun q => w (nI_eqI (b := 16) (by omega) (by omega) q)), bn2_eta, bn_eta]
      have r2 := R2.push ⟨p1, p3⟩ w16 (S16_of x)
      refine OUT.go (cput p1.f p1.k p3.2.1 w16 x) (mput p1.m p1.k p3.2.2.1 w16 x) ⟨r2, ?_⟩
      rw [up2_cell _ _ _ _ _ _ (Or.inr (by decide)), up2_cell _ _ _ _ _ _ (Or.inl (by omega)), up2_row _ _ _ _ _ (by decide), up2_row _ _ _ _ _ (by decide)]
      exact p2
