/-! PART II, the store: looks at objects; instructions 30, 32, 33, 34 -/
theorem chas_eq {C M : St} (h : C 2 4 = M 0 4) (x : Int32) : pX7_has C x = pX9_isObject M x := by
  unfold pX7_has pX9_isObject; rw [h]
theorem isObj {M : St} {n : Nat} (hn : M 0 4 = nI n) (h40 : n ≤ 40) (x : Int32) : pX9_isObject M x = some 0 ∨ ∃ z, 1 ≤ z ∧ z ≤ n ∧ x = nI z ∧ pX9_isObject M x = some 1 := by
  unfold pX9_isObject
  rw [hn]
  by_cases h1 : x < 1
  · exact Or.inl (if_pos h1)
  · have h0 : ¬ x < 0 := fun q => h1 (by
      rw [Int32.lt_iff_toInt_lt] at q ⊢
      have e0 : (0 : Int32).toInt = 0 := rfl
      have e1 : (1 : Int32).toInt = 1 := rfl
      omega)
    obtain ⟨z, hz, rfl⟩ := nI_of h0
    by_cases h2 : nI n < nI z
    · exact Or.inl (by rw [if_neg h1, if_pos h2])
    · refine Or.inr ⟨z, ?_, ?_, rfl, by rw [if_neg h1, if_neg h2]⟩
      · rcases Nat.lt_or_ge 0 z with q | q
        · exact q
        · exact absurd (show nI z < 1 by rw [show z = 0 by omega]; decide) h1
      · rcases Nat.lt_or_ge n z with q | q
        · exact absurd ((nI_ltI (by omega) hz).mpr q) h2
        · exact q
theorem shut {C M : St} {k z : Nat} {o : Int32} (hm : M 0 24 = nI (k + 1)) (hk : k < 8) (ho : o = M 14 k) (hr : C 51 = M 5) (hz : z < 41) : (pX9_isShut M (nI z) = some 0 ∧ pX7_mayUse C o (nI z) = some 1) ∨ (pX9_isShut M (nI z) = some 1 ∧ pX7_mayUse C o (nI z) = some 0) := by
  unfold pX9_isShut pX7_mayUse
  subst ho
  rw [mtop hm, bn_s, gd_t (inb_nI hk (by decide)), ix_nI (by omega), gd_t (inb_nI hz (by decide)), bn_s, gd_t (inb_nI hk (by decide)), ix_nI (by omega), gd_t (inb_nI hz (by decide)), hr, ix_nI (show k < 2 ^ 31 by omega)]
  by_cases h : M 14 k = 0
  · exact Or.inl ⟨by rw [if_pos h], by rw [if_pos h]⟩
  · by_cases h2 : M 5 z = M 14 k
    · exact Or.inl ⟨by rw [if_neg h, if_pos h2], by rw [if_neg h, if_pos h2.symm]⟩
    · exact Or.inr ⟨by rw [if_neg h, if_neg h2], by rw [if_neg h, if_neg (fun q => h2 q.symm)]⟩
theorem chasC {C M : St} {z : Nat} (hr : C 53 = M 7) (hz : z < 41) (i : Int32) : pX7_hasCells C (nI z) i 1 = pX9_isIn i 0 (M 7 z - 1) := by
  unfold pX7_hasCells pX9_isIn
  rw [gd_t (inb_nI hz (by decide)), ix_nI (by omega), hr]
/-- what is known of the store -/
theorem EX.obj {C M : St} {k h p j len : Nat} (e : EX C M k h p j len) : ∃ n c, 4 ≤ n ∧ n ≤ 40 ∧ c ≤ 240 ∧ M 0 4 = nI n ∧ M 0 10 = nI c ∧ Iobj n c (M 6) (M 7) (M 8) := by
  obtain ⟨n, c, h1, h2, h3, h4, h5, h6, -⟩ := e.1.1.2.1.2.2.1
  exact ⟨n, c, h1, h2, h3, h4, h5, h6⟩
/-- the rows of the store, seen from the class's state with the last frame's stack changed -/
theorem EX.rows {C M : St} {k h p j len : Nat} (e : EX C M k h p j len) (v : Int32) : (up2 C (27 + k) 2 v) 2 = C 2 ∧ (up2 C (27 + k) 2 v) 51 = M 5 ∧ (up2 C (27 + k) 2 v) 52 = M 6 ∧ (up2 C (27 + k) 2 v) 53 = M 7 ∧ (up2 C (27 + k) 2 v) 54 = M 8 ∧ (up2 C (27 + k) 2 v) 55 = M 9 ∧ (up2 C (27 + k) 2 v) 2 4 = M 0 4 ∧ (up2 C (27 + k) 2 v) (27 + k) 3 = M 14 k := by
  have hk := e.k
  refine ⟨up2_row _ _ _ _ _ (by omega), ?_, ?_, ?_, ?_, ?_, ?_, ?_⟩
  · rw [up2_row _ _ _ _ _ (by omega)]; exact e.1.1.1.r (by decide +kernel)
  · rw [up2_row _ _ _ _ _ (by omega)]; exact e.1.1.1.r (by decide +kernel)
  · rw [up2_row _ _ _ _ _ (by omega)]; exact e.1.1.1.r (by decide +kernel)
  · rw [up2_row _ _ _ _ _ (by omega)]; exact e.1.1.1.r (by decide +kernel)
  · rw [up2_row _ _ _ _ _ (by omega)]; exact e.1.1.1.r (by decide +kernel)
  · rw [up2_cell _ _ _ _ _ _ (Or.inl (by omega))]; exact e.1.1.1.s (by decide +kernel)
  · rw [up2_cell _ _ _ _ _ _ (Or.inr (by decide))]; exact (e.1.1.2.2.2.2.1 k (Nat.le_refl _)).1
/-- a cell of an object, looked at by both -/
theorem cellF {C M : St} {k h p j len : Nat} (e : EX C M k h p j len) (v r i : Int32) (mf T : Option Int32) (hmf : mf = bn (pX9_isObject M r) fun r3 => if r3 = 0 then some 2 else bn (pX9_isShut M r) fun r4 => if r4 = 0 then (gd (inb r 41) <| bn (pX9_isIn i 0 ((M 7 (ix r)) - 1)) fun r3 => if r3 = 0 then some 3 else T) else some 4) :
    (∃ f, (f = 2 ∨ f = 3 ∨ f = 4) ∧ mf = some f ∧ pX7_cellFault (up2 C (27 + k) 2 v) (M 14 k) r i = some f) ∨ (∃ z s b y n c, 1 ≤ z ∧ z ≤ n ∧ n ≤ 40 ∧ c ≤ 240 ∧ r = nI z ∧ i = nI y ∧ y < s ∧ s ≤ 16 ∧ b + s ≤ c ∧ M 7 z = nI s ∧ M 8 z = nI b ∧ mf = T ∧ pX7_cellFault (up2 C (27 + k) 2 v) (M 14 k) r i = some 65536) := by
  obtain ⟨n, c, h4, h40, hc, en, ec, ho⟩ := e.obj
  obtain ⟨a2, a51, a52, a53, a54, a55, a24, aow⟩ := e.rows v
  unfold pX7_cellFault
  rw [hmf, chas_eq a24]
  rcases isObj en h40 r with q | ⟨z, z1, zn, rfl, q⟩
  · left
    exact ⟨2, Or.inl rfl, by rw [q, bn_s, if_pos rfl], by rw [q, bn_s, if_pos rfl]⟩
  · rw [q, bn_s, bn_s, if_neg (by decide), if_neg (by decide)]
    rcases shut (o := M 14 k) e.m e.k rfl a51 (show z < 41 by omega) with ⟨s1, s2⟩ | ⟨s1, s2⟩
    · rw [s1, s2, bn_s, bn_s, if_pos rfl, if_neg (by decide), chasC a53 (by omega), gd_t (inb_nI (by omega) (by decide)), ix_nI (by omega)]
      obtain ⟨-, s, b, w1, w2, w3, w4, w5⟩ := ho z z1 zn
      rw [w4]
      rcases isIn_n (n := s) (by omega) i with ⟨i1, i2⟩ | ⟨y, hy, rfl, i1⟩
      · left
        exact ⟨3, Or.inr (Or.inl rfl), by rw [i1, bn_s, if_pos rfl], by rw [i1, bn_s, if_pos rfl]⟩
      · right
        exact ⟨z, s, b, y, n, c, z1, zn, h40, hc, rfl, rfl, hy, w2, w3, w4, w5, by rw [i1, bn_s, if_neg (by decide)], by rw [i1, bn_s, if_neg (by decide)]⟩
    · left
      exact ⟨4, Or.inr (Or.inr rfl), by rw [s1, bn_s, if_neg (by decide)], by rw [s2, bn_s, if_pos rfl]⟩
theorem f234 {f : Int32} (h : f = 2 ∨ f = 3 ∨ f = 4) : S16 f ∧ ¬ f ≤ 0 ∧ ¬ f = 65536 := by
  rcases h with h | h | h <;> subst h
  · exact ⟨S16_nI (n := 2) (by decide), by decide, by decide⟩
  · exact ⟨S16_nI (n := 3) (by decide), by decide, by decide⟩
  · exact ⟨S16_nI (n := 4) (by decide), by decide, by decide⟩
theorem op_30 {C M : St} {k h p : Nat} (e : EX C M k h p 30 1) (ht : 2 ≤ h) : OUT (pX6_useObjects C 30) (mgo M (pX9_fault_b94 M (nI 30))) := by
  obtain ⟨n, rfl⟩ : ∃ n, h = n + 2 := ⟨h - 2, by omega⟩
  have hk := e.k
  have h16 := e.h16
  have q0 := e.st (n := n) (by omega)
  have q1 := e.st (n := n + 1) (by omega)
  obtain ⟨a2, a51, a52, a53, a54, a55, a24, aow⟩ := e.rows (nI n)
  rw [show pX9_fault_b94 M (nI 30) = (bn (pX9_at M 1) fun r2 => bn (pX9_isObject M r2) fun r3 => if r3 = 0 then some 2 else bn (pX9_isShut M r2) fun r4 => if r4 = 0 then (bn (pX9_at M 0) fun i => gd (inb r2 41) <| bn (pX9_isIn i 0 ((M 7 (ix r2)) - 1)) fun r3 => if r3 = 0 then some 3 else some 0) else some 4) from rfl, mat (x := 1) (j := 1) (n := n) e.m e.k e.mh h16 rfl (by omega), bn_s, mat (x := 0) (j := 0) (n := n + 1) e.m e.k e.mh h16 rfl (by omega), show pX6_useObjects C 30 = (bn2 (ic (C 1 10) 8 fun k1 => bn2 (pX2_pop C k1) fun r1 M1 => ic (M1 1 10) 8 fun k2 => bn2 (pX2_pop M1 k2) fun r2 M2 => ic (M2 1 10) 8 fun k3 => bn (pX7_cellFault M2 (M2 (27 + k3) 3) r2 r1) fun r3 => if r3 = 65536 then bn (pX7_read M2 r2 r1) fun r4 => bn2 (pX6_put M2 r4) fun r5 M3 => some (r5, M3) else some (r3, M2)) fun r4 M4 => some (r4, M4)) from rfl, bn2_eta, ic_of _ e.f hk (by omega), cpop e.hh (by omega), bn2_s, ic_of _ (by rw [up2_cell _ _ _ _ _ _ (Or.inl (by omega))]; exact e.f) hk (by omega), cpop (up2_at _ _ _ _) (by omega), bn2_s, up2_twice, ic_of _ (by rw [up2_cell _ _ _ _ _ _ (Or.inl (by omega))]; exact e.f) hk (by omega), up2_cell C _ _ _ _ _ (Or.inl (show 43 + k ≠ 27 + k by omega)), q0.1, q1.1, aow]
  rcases cellF e (nI n) (M 18 (16 * k + n)) (M 18 (16 * k + (n + 1))) _ _ rfl with ⟨f, f1, f2, f3⟩ | ⟨z, s, b, y, on, oc, z1, zn, n40, c240, er, ei, ys, s16, bs, e7, e8, f2, f3⟩
  · rw [f3, bn_s, if_neg (f234 f1).2.2]
    simp only [bn_s] at f2 ⊢
    rw [f2]
    exact OUT.thr (f234 f1).1 rfl (mgo_f M (f234 f1).2.1) (e.1.1.ch _)
  · rw [f3, bn_s, if_pos rfl]
    simp only [bn_s] at f2 ⊢
    rw [f2]
    obtain ⟨t, h1, h2⟩ := msm e rfl
    refine OUT.rep (v := M 9 (b + y)) (x := 2) (d := 2) e rfl rfl (by omega) rfl ?_ ?_
    · rw [show pX7_read (up2 C (27 + k) 2 (nI n)) (M 18 (16 * k + n)) (M 18 (16 * k + (n + 1))) = some (M 9 (b + y)) from by
        unfold pX7_read
        rw [er, ei, gd_t (inb_nI (by omega) (by decide)), ix_nI (by omega), a54, e8, nI_add, gd_t (inb_nI (by omega) (by decide)), ix_nI (by omega), a55], bn_s, bn2_eta, cput_d e.f hk (by omega)]
    · rw [h1, h2 (n + 1) rfl, show ∀ t, pX9_actSmall_b16 M (nI 30) t = (bn (pX9_at M 1) fun r2 => gd (inb r2 41) <| gd (inb ((M 8 (ix r2)) + t) 240) <| bn (pX9_replace M 2 (M 9 (ix ((M 8 (ix r2)) + t)))) fun M33 => some M33) from fun _ => rfl, mat (x := 1) (j := 1) (n := n) e.m e.k e.mh h16 rfl (by omega), bn_s, er, ei, gd_t (inb_nI (by omega) (by decide)), ix_nI (by omega), e8, nI_add, gd_t (inb_nI (by omega) (by decide)), ix_nI (by omega), bn_eta]
theorem op_32 {C M : St} {k h p : Nat} (e : EX C M k h p 32 1) (ht : 1 ≤ h) : OUT (pX6_useObjects C 32) (mgo M (pX9_fault_b94 M (nI 32))) := by
  obtain ⟨n, rfl⟩ : ∃ n, h = n + 1 := ⟨h - 1, by omega⟩
  have hk := e.k
  have h16 := e.h16
  have q0 := e.st (n := n) (by omega)
  obtain ⟨a2, a51, a52, a53, a54, a55, a24, aow⟩ := e.rows (nI n)
  obtain ⟨on, oc, h4, h40, hc, en, ec, ho⟩ := e.obj
  rw [show pX9_fault_b94 M (nI 32) = (bn (pX9_at M 0) fun r2 => bn (pX9_isObject M r2) fun r3 => if r3 = 0 then some 2 else bn (pX9_isShut M r2) fun r4 => if r4 = 0 then some 0 else some 4) from rfl, mat (x := 0) (j := 0) (n := n) e.m e.k e.mh h16 rfl (by omega), bn_s, show pX6_useObjects C 32 = (ic (C 1 10) 8 fun k1 => bn2 (pX2_pop C k1) fun r6 M6 => bn2 (pX6_putSize M6 r6) fun r7 M7 => some (r7, M7)) from rfl, ic_of _ e.f hk (by omega), cpop e.hh (by omega), bn2_s, bn2_eta, q0.1]
  unfold pX6_putSize
  rw [ic_of _ (by rw [up2_cell _ _ _ _ _ _ (Or.inl (by omega))]; exact e.f) hk (by omega), aow]
  unfold pX7_cellFault
  rw [chas_eq a24]
  rcases isObj en h40 (M 18 (16 * k + n)) with q | ⟨z, z1, zn, er, q⟩
  · rw [q, bn_s, bn_s, if_pos rfl, if_pos rfl, bn_s, if_neg (by decide)]
    exact OUT.thr (S16_nI (n := 2) (by decide)) rfl (mgo_f M (by decide)) (e.1.1.ch _)
  · rw [q, bn_s, bn_s, if_neg (by decide), if_neg (by decide), er]
    rcases shut (o := M 14 k) e.m e.k rfl a51 (show z < 41 by omega) with ⟨s1, s2⟩ | ⟨s1, s2⟩
    · obtain ⟨-, s, b, w1, w2, w3, w4, w5⟩ := ho z z1 zn
      rw [s1, s2, bn_s, bn_s, if_pos rfl, if_neg (by decide), chasC a53 (by omega), w4, show pX9_isIn 0 0 (nI s - 1) = some 1 from by
        rcases isIn_n (n := s) (by omega) 0 with ⟨i1, i2⟩ | ⟨y, hy, -, i1⟩
        · rcases i2 with i2 | i2
          · exact absurd i2 (by decide)
          · exact absurd i2 (by rw [show (0 : Int32) = nI 0 from rfl, nI_leI (by omega) (by omega)]; omega)
        · exact i1, bn_s, if_neg (by decide), bn_s, if_pos rfl, gd_t (inb_nI (by omega) (by decide)), ix_nI (by omega), bn2_eta, a53, w4]
      obtain ⟨t, h1, h2⟩ := msm e rfl
      refine OUT.rep (v := nI s) (x := 1) (d := 1) e rfl rfl (by omega) rfl (cput_d e.f hk (by omega) _) ?_
      rw [h1, h2 n rfl, show ∀ t, pX9_actSmall_b16 M (nI 32) t = (gd (inb t 41) <| bn (pX9_replace M 1 (M 7 (ix t))) fun M35 => some M35) from fun _ => rfl, er, gd_t (inb_nI (by omega) (by decide)), ix_nI (by omega), w4, bn_eta]
    · rw [s1, s2, bn_s, bn_s, if_pos rfl, if_neg (by decide), bn_s, if_neg (by decide)]
      exact OUT.thr (S16_nI (n := 4) (by decide)) rfl (mgo_f M (by decide)) (e.1.1.ch _)
theorem op_33 {C M : St} {k h p : Nat} (e : EX C M k h p 33 1) (h16 : h < 16) : OUT (pX6_useObjects C 33) (mgo M (some 0)) := by
  have hk := e.k
  obtain ⟨t, h1, -⟩ := msm e rfl
  have ow := (e.1.1.2.2.2.2.1 k (Nat.le_refl _)).1
  rw [h1, show pX9_actSmall_b16 M (nI 33) t = (bn (pX9_top M) fun r3 => gd (inb r3 8) <| bn (pX9_replace M 0 ((M 14 (ix r3)) + 1)) fun M36 => some M36) from rfl, mtop e.m, bn_s, gd_t (inb_nI hk (by decide)), ix_nI (by omega), bn_eta]
  refine OUT.rep (v := M 14 k + 1) (x := 0) (d := 0) e rfl rfl h16 rfl ?_ rfl
  rw [show pX6_useObjects C 33 = (ic (C 1 10) 8 fun k2 => bn2 (pX6_put C ((C (27 + k2) 3) + 1)) fun r8 M8 => some (r8, M8)) from rfl, ic_of _ e.f hk (by omega), bn2_eta, ow, cput_0 e.f hk e.hh h16]
theorem op_34 {C M : St} {k h p : Nat} (e : EX C M k h p 34 1) (ht : 1 ≤ h) : OUT (pX6_useObjects C 34) (mgo M (pX9_fault_b94 M (nI 34))) := by
  obtain ⟨n, rfl⟩ : ∃ n, h = n + 1 := ⟨h - 1, by omega⟩
  have hk := e.k
  have h16 := e.h16
  have q0 := e.st (n := n) (by omega)
  obtain ⟨a2, a51, a52, a53, a54, a55, a24, aow⟩ := e.rows (nI n)
  obtain ⟨on, oc, h4, h40, hc, en, ec, ho⟩ := e.obj
  rw [show pX9_fault_b94 M (nI 34) = (bn (pX9_at M 0) fun r2 => bn (pX9_isObject M r2) fun r3 => if r3 = 0 then some 2 else some 0) from rfl, mat (x := 0) (j := 0) (n := n) e.m e.k e.mh h16 rfl (by omega), bn_s, show pX6_useObjects C 34 = (ic (C 1 10) 8 fun k3 => bn2 (pX2_pop C k3) fun r9 M9 => bn2 (pX6_putOwner M9 r9) fun r10 M10 => some (r10, M10)) from rfl, ic_of _ e.f hk (by omega), cpop e.hh (by omega), bn2_s, bn2_eta, q0.1]
  unfold pX6_putOwner
  rw [chas_eq a24]
  rcases isObj en h40 (M 18 (16 * k + n)) with q | ⟨z, z1, zn, er, q⟩
  · rw [q, bn_s, bn_s, if_pos rfl, if_pos rfl]
    exact OUT.thr (S16_nI (n := 2) (by decide)) rfl (mgo_f M (by decide)) (e.1.1.ch _)
  · rw [q, bn_s, bn_s, if_neg (by decide), if_neg (by decide), er, gd_t (inb_nI (by omega) (by decide)), ix_nI (by omega), bn2_eta, a51]
    obtain ⟨t, h1, h2⟩ := msm e rfl
    refine OUT.rep (v := M 5 z) (x := 1) (d := 1) e rfl rfl (by omega) rfl (cput_d e.f hk (by omega) _) ?_
    rw [h1, h2 n rfl, show ∀ t, pX9_actSmall_b16 M (nI 34) t = (gd (inb t 41) <| bn (pX9_replace M 1 (M 5 (ix t))) fun M37 => some M37) from fun _ => rfl, er, gd_t (inb_nI (by omega) (by decide)), ix_nI (by omega), bn_eta]
