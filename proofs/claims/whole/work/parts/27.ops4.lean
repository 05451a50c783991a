/-! PART II, instructions 39 .. 45 -/
def CA (C C' : St) : Prop := (∀ a, 26 ≤ a → a < 51 → C' a = C a) ∧ C' 1 = C 1
def MA (M M' : St) : Prop := (∀ b, 14 ≤ b → M' b = M b) ∧ ∀ i, (i = 11 ∨ i = 24 ∨ i = 31 ∨ i = 33 ∨ i = 34 ∨ i = 35) → M' 0 i = M 0 i
theorem CA.rf {C : St} : CA C C := ⟨fun _ _ _ => rfl, rfl⟩
theorem MA.rf {M : St} : MA M M := ⟨fun _ _ => rfl, fun _ _ => rfl⟩
theorem CA.up {C C' : St} (h : CA C C') {a j : Nat} {v : Int32} (ha : (a < 26 ∨ 51 ≤ a) ∧ a ≠ 1) : CA C (up2 C' a j v) :=
  ⟨fun b h1 h2 => by rw [up2_row _ _ _ _ _ (by omega)]; exact h.1 b h1 h2, by rw [up2_row _ _ _ _ _ (Ne.symm ha.2)]; exact h.2⟩
theorem MA.up {M M' : St} (h : MA M M') {b i : Nat} {v : Int32} (hb : b < 14 ∧ (b = 0 → ¬ (i = 11 ∨ i = 24 ∨ i = 31 ∨ i = 33 ∨ i = 34 ∨ i = 35))) : MA M (up2 M' b i v) := by
  refine ⟨fun c hc => by rw [up2_row _ _ _ _ _ (by omega)]; exact h.1 c hc, fun z hz => ?_⟩
  rw [up2_cell]
  · exact h.2 z hz
  · by_cases e : b = 0
    · exact Or.inr (fun q => hb.2 e (by rw [← q]; exact hz))
    · exact Or.inl (Ne.symm e)
theorem MA.upr {M M' : St} (h : MA M M') {b i : Nat} {v : Int32} (h1 : b < 14) (h2 : b ≠ 0) : MA M (up2 M' b i v) := h.up ⟨h1, fun e => absurd e h2⟩
theorem R1.ag {C M C' M' : St} {k : Nat} (h : R1 C M k) (hre : RE C' M') (hinv : INV M') (hc : CA C C') (hm : MA M M') : R1 C' M' k := by
  have hk := h.k
  refine h.congr hre hinv (fun j _ => by rw [hc.2]) (fun i hi => ⟨by rw [hc.1 _ (by omega) (by omega)], by rw [hc.1 _ (by omega) (by omega)]⟩) (fun i j hi _ => by rw [hc.1 _ (by omega) (by omega)]) (fun i hi => ⟨by rw [hc.1 _ (by omega) (by omega)], by rw [hc.1 _ (by omega) (by omega)]⟩) (fun i j hi _ => by rw [hc.1 _ (by omega) (by omega)]) hm.2 (fun i _ => ⟨by rw [hm.1 _ (by omega)], by rw [hm.1 _ (by omega)], by rw [hm.1 _ (by omega)]⟩) (fun z _ => by rw [hm.1 _ (by omega)]) (fun i _ => ⟨by rw [hm.1 _ (by omega)], by rw [hm.1 _ (by omega)]⟩) (fun z _ => by rw [hm.1 _ (by omega)])
theorem R2.ag {C M C' M' : St} {k h : Nat} (r : R2 C M k h) (hre : RE C' M') (hinv : INV M') (hc : CA C C') (hm : MA M M') : R2 C' M' k h := by
  have hk := r.1.k
  refine ⟨r.1.ag hre hinv hc hm, r.2.1, ?_, ?_, fun j hj => ?_⟩
  · rw [hc.1 _ (by omega) (by omega)]; exact r.2.2.1
  · rw [hm.1 _ (by omega)]; exact r.2.2.2.1
  · rw [hc.1 _ (by omega) (by omega), hm.1 _ (by omega)]; exact r.2.2.2.2 j hj
/-- the reference's act, for the instructions that it counts as small -/
theorem msm {C M : St} {k h p j len : Nat} (e : EX C M k h p j len) (ha : pX9_act M (nI j) = bn (pX9_actSmall M (nI j)) fun M5 => some M5) : ∃ t, mgo M (some 0) = pX9_actSmall_b16 M (nI j) t ∧ ∀ n, h = n + 1 → t = M 18 (16 * k + n) := by
  obtain ⟨t, h1, h2⟩ := msmall e.m e.k e.mh e.h16 (nI j)
  exact ⟨t, by rw [mgo_0 e, ha, bn_eta, h1], h2⟩
theorem op_39 {C M : St} {k h p : Nat} (e : EX C M k h p 39 1) (h16 : h < 16) : OUT (pX6_changeTransaction C 39) (mgo M (some 0)) := by
  obtain ⟨t, h1, -⟩ := msm e rfl
  rw [h1, show pX9_actSmall_b16 M (nI 39) t = (if M 0 13 = 0 then bn (pX9_replace M 0 0) fun M42 => some M42 else bn (pX9_replace M 0 1) fun M43 => some M43) from rfl, show pX6_changeTransaction C 39 = (if C 2 5 = 0 then bn2 (pX6_put C 0) fun r1 M1 => some (r1, M1) else bn2 (pX6_put C 1) fun r2 M2 => some (r2, M2)) from rfl, e.1.1.1.s (a := 2) (j := 5) (b := 0) (i := 13) (by decide +kernel), bn2_eta, bn2_eta, bn_eta, bn_eta]
  by_cases z : M 0 13 = 0
  · rw [if_pos z, if_pos z]
    exact OUT.rep (v := 0) (x := 0) (d := 0) e rfl rfl h16 rfl (cput_0 e.f e.k e.hh h16 _) rfl
  · rw [if_neg z, if_neg z]
    exact OUT.rep (v := 1) (x := 0) (d := 0) e rfl rfl h16 rfl (cput_0 e.f e.k e.hh h16 _) rfl
theorem op_41 {C M : St} {k h p : Nat} (e : EX C M k h p 41 1) (h16 : h < 16) : OUT (pX6_talk C 41) (mgo M (some 0)) := by
  obtain ⟨t, h1, -⟩ := msm e rfl
  rw [h1, show pX9_actSmall_b16 M (nI 41) t = (bn (pX9_replace M 0 (M 0 21)) fun M45 => some M45) from rfl, bn_eta]
  refine OUT.rep (v := M 0 21) (x := 0) (d := 0) e rfl rfl h16 rfl ?_ rfl
  rw [show pX6_talk C 41 = (bn2 (pX6_put C (C 22 1)) fun r3 M3 => some (r3, M3)) from rfl, bn2_eta, cput_0 e.f e.k e.hh h16, e.1.1.1.s (a := 22) (j := 1) (b := 0) (i := 21) (by decide +kernel)]
theorem in_lt {n : Nat} (hn : n < 2 ^ 31) {x : Int32} (h : ¬ x < 0) : (nI n ≤ x) ↔ (nI n - 1 < x) := by
  obtain ⟨z, hz, rfl⟩ := nI_of h
  rw [nI_leI hn hz]
  by_cases q : n = 0
  · subst q
    constructor
    · intro _
      rw [Int32.lt_iff_toInt_lt, nI_toInt hz]
      have : (nI 0 - 1).toInt = -1 := by decide
      omega
    · intro _; omega
  · rw [show (1 : Int32) = nI 1 from rfl, nI_subN (by omega), nI_ltI (by omega) hz]
    omega
/-- a number that a row of n numbers has -/
theorem isIn_n {n : Nat} (hn : n < 2 ^ 31) (x : Int32) : (pX9_isIn x 0 (nI n - 1) = some 0 ∧ (x < 0 ∨ nI n ≤ x)) ∨ ∃ z, z < n ∧ x = nI z ∧ pX9_isIn x 0 (nI n - 1) = some 1 := by
  unfold pX9_isIn
  by_cases h : x < 0
  · exact Or.inl ⟨by rw [if_pos h], Or.inl h⟩
  · by_cases h2 : nI n ≤ x
    · exact Or.inl ⟨by rw [if_neg h, if_pos ((in_lt hn h).mp h2)], Or.inr h2⟩
    · obtain ⟨z, hz, rfl⟩ := nI_of h
      refine Or.inr ⟨z, ?_, rfl, by rw [if_neg h, if_neg (fun q => h2 ((in_lt hn h).mpr q))]⟩
      rcases Nat.lt_or_ge z n with q | q
      · exact q
      · exact absurd ((nI_leI hn hz).mpr q) h2
theorem chas {C : St} {b n : Nat} (hn : C b 1 = nI n) (x : Int32) : (x < 0 ∨ nI n ≤ x → pX1_has C b x = some 0) ∧ (∀ z, z < n → n < 2 ^ 31 → x = nI z → pX1_has C b x = some 1) := by
  unfold pX1_has
  rw [hn]
  refine ⟨fun h => ?_, fun z hz h31 e => ?_⟩
  · by_cases q : x < 0
    · rw [if_pos q]
    · rw [if_neg q, if_pos (h.resolve_left q)]
  · subst e
    rw [if_neg (nI_pos (by omega)), if_neg (nI_ge hz h31)]
theorem op_40 {C M : St} {k h p : Nat} (e : EX C M k h p 40 1) (ht : 1 ≤ h) : OUT (pX6_talk C 40) (mgo M (bn (pX9_at M 0) fun r11 => bn (pX9_isIn r11 0 ((M 0 21) - 1)) fun r12 => if r12 = 0 then some 3 else some 0)) := by
  obtain ⟨n, rfl⟩ : ∃ n, h = n + 1 := ⟨h - 1, by omega⟩
  have hk := e.k
  have h16 := e.h16
  have q0 := e.st (n := n) (by omega)
  obtain ⟨cs, hcs, ecs⟩ := e.1.1.2.1.2.2.2.1
  have c22 : (up2 C (27 + k) 2 (nI n)) 22 1 = nI cs := by rw [up2_cell _ _ _ _ _ _ (Or.inl (by omega)), e.1.1.1.s (a := 22) (j := 1) (b := 0) (i := 21) (by decide +kernel)]; exact ecs
  have c23 : (up2 C (27 + k) 2 (nI n)) 23 = M 12 := by rw [up2_row _ _ _ _ _ (by omega)]; exact e.1.1.1.r (by decide +kernel)
  rw [show pX6_talk C 40 = (ic (C 1 10) 8 fun k1 => bn2 (pX2_pop C k1) fun r1 M1 => bn2 (pX6_putCommandByte M1 r1) fun r2 M2 => some (r2, M2)) from rfl, ic_of _ e.f hk (by omega), cpop e.hh (by omega), bn2_s, bn2_eta, mat (x := 0) (j := 0) (n := n) e.m e.k e.mh h16 rfl (by omega), bn_s, q0.1, ecs]
  unfold pX6_putCommandByte
  rcases isIn_n (n := cs) (by omega) (M 18 (16 * k + n)) with ⟨i1, i2⟩ | ⟨z, hz, ez, i1⟩
  · rw [i1, bn_s, if_pos rfl, (chas c22 _).1 i2, bn_s, if_pos rfl]
    exact OUT.thr (S16_nI (n := 3) (by decide)) rfl (mgo_f M (by decide)) (e.1.1.ch _)
  · rw [i1, bn_s, if_neg (by decide), (chas c22 _).2 z hz (by omega) ez, bn_s, if_neg (by decide), bn2_eta, show (22 + 1 : Nat) = 23 from rfl, c23]
    obtain ⟨t, h1, h2⟩ := msm e rfl
    refine OUT.rep (v := (M 12 z).toInt8.toInt32) (x := 1) (d := 1) e rfl rfl (by omega) rfl ?_ ?_
    · rw [ez, gd_t (inb_nI (by omega) (by decide)), ix_nI (by omega), cput_d e.f hk (by omega)]
    · rw [h1, h2 n rfl, ez, show ∀ t, pX9_actSmall_b16 M (nI 40) t = (gd (inb t 32) <| bn (pX9_replace M 1 ((M 12 (ix t)).toInt8.toInt32)) fun M44 => some M44) from fun _ => rfl, gd_t (inb_nI (by omega) (by decide)), ix_nI (by omega), bn_eta]
theorem INV.reply {M : St} (h : INV M) {n j : Nat} (hn : n ≤ 32) (v : Int32) : INV (up2 (up2 M 13 j v) 0 23 (nI n)) :=
  ⟨h.1, h.2.1, h.2.2.1, h.2.2.2.1, ⟨n, hn, rfl⟩, h.2.2.2.2.2⟩
theorem op_42 {C M : St} {k h p : Nat} (e : EX C M k h p 42 1) (ht : 1 ≤ h) : OUT (pX6_talk C 42) (mgo M (if M 0 23 = 32 then some 6 else some 0)) := by
  obtain ⟨n, rfl⟩ : ∃ n, h = n + 1 := ⟨h - 1, by omega⟩
  have hk := e.k
  have h16 := e.h16
  have q0 := e.st (n := n) (by omega)
  obtain ⟨rs, hrs, ers⟩ := e.1.1.2.1.2.2.2.2.1
  have c24 : (up2 C (27 + k) 2 (nI n)) 24 1 = nI rs := by rw [up2_cell _ _ _ _ _ _ (Or.inl (by omega)), e.1.1.1.s (a := 24) (j := 1) (b := 0) (i := 23) (by decide +kernel)]; exact ers
  rw [show pX6_talk C 42 = (ic (C 1 10) 8 fun k2 => bn2 (pX2_pop C k2) fun r4 M4 => bn2 (pX6_answerByte M4 (r4 &&& 255)) fun r5 M5 => some (r5, M5)) from rfl, ic_of _ e.f hk (by omega), cpop e.hh (by omega), bn2_s, bn2_eta, ers, q0.1]
  unfold pX6_answerByte pX1_isFull pX1_add
  rw [c24]
  by_cases z : nI rs = 32
  · rw [if_pos z, if_pos z, bn_s, if_neg (by decide)]
    exact OUT.thr (S16_nI (n := 6) (by decide)) rfl (mgo_f M (by decide)) (e.1.1.ch _)
  · have rs32 : rs < 32 := by
      rcases Nat.lt_or_ge rs 32 with q | q
      · exact q
      · exact absurd (by rw [show rs = 32 by omega]; rfl) z
    rw [if_neg z, if_neg z, bn_s, if_pos rfl, gd_t (inb_nI rs32 (by decide)), ix_nI (by omega), lt_s', lt_s', bn_s, up2_cell _ _ _ _ _ _ (Or.inl (show (24 : Nat) ≠ 24 + 1 by decide)), c24, nI_1]
    obtain ⟨t, h1, h2⟩ := msm e rfl
    have rd := e.1.drop (n := n) (by omega)
    have rr : R2 (up2 (up2 (up2 C (27 + k) 2 (nI n)) 25 rs (M 18 (16 * k + n) &&& 255)) 24 1 (nI (rs + 1))) (up2 (up2 (up2 M 19 k (nI n)) 13 rs (M 18 (16 * k + n) &&& 255)) 0 23 (nI (rs + 1))) k n :=
      rd.ag ((rd.1.1.row (a := 25) (b := 13) (by decide +kernel) _ _).both (by decide +kernel) _) (INV.reply rd.1.2.1 (by omega) _) ((CA.rf.up (by decide)).up (by decide)) ((MA.rf.upr (by decide) (by decide)).up (by decide))
    refine OUT.go (M' := up2 (up2 (up2 (up2 M 19 k (nI n)) 13 rs (M 18 (16 * k + n) &&& 255)) 0 23 (nI (rs + 1))) 15 k (nI (p + 1))) rfl ?_ ⟨rr.mp _, ?_⟩
    · rw [h1, h2 n rfl, show ∀ t, pX9_actSmall_b16 M (nI 42) t = (gd (inb (M 0 23) 32) <| lt (up2 M 13 (ix (M 0 23)) (t &&& 255)) fun M46 => lt (up2 M46 0 23 ((M46 0 23) + 1)) fun M47 => bn (pX9_drop M47 1) fun M48 => bn (pX9_on M48 1) fun M49 => some M49) from fun _ => rfl, ers, gd_t (inb_nI rs32 (by decide)), ix_nI (by omega), lt_s', lt_s', show (up2 M 13 rs (M 18 (16 * k + n) &&& 255)) 0 23 = nI rs from ers, nI_1, mdrop (M := up2 (up2 M 13 _ _) 0 23 _) (k := k) (h := n + 1) (x := 1) (n := 1) e.m e.k e.mh rfl (by omega), bn_s, bn_eta, mon (M := up2 (up2 (up2 M 13 _ _) 0 23 _) 19 k _) (k := k) e.m e.k]
      rw [show (up2 (up2 (up2 M 13 rs (M 18 (16 * k + n) &&& 255)) 0 23 (nI (rs + 1))) 19 k (nI (n + 1 - 1))) 15 k + 1 = nI (p + 1) from by rw [show (up2 (up2 (up2 M 13 rs (M 18 (16 * k + n) &&& 255)) 0 23 (nI (rs + 1))) 19 k (nI (n + 1 - 1))) 15 k = nI p from e.mp]; exact nI_1 p, Nat.add_sub_cancel, up2_comm (a := 19) (b := 13) M _ _ (Or.inl (by decide)), up2_comm (a := 19) (b := 0) _ (nI n) _ (Or.inl (by decide))]
    · rw [up2_at, up2_cell _ _ _ _ _ _ (Or.inl (by omega)), up2_cell _ _ _ _ _ _ (Or.inl (by omega)), up2_cell _ _ _ _ _ _ (Or.inr (by decide)), e.cp]
theorem op_43 {C M : St} {k h p : Nat} (e : EX C M k h p 43 1) (ht : 1 ≤ h) : OUT (pX6_throwOrHandle C 43) (mgo M (some 0)) := by
  obtain ⟨n, rfl⟩ : ∃ n, h = n + 1 := ⟨h - 1, by omega⟩
  have hk := e.k
  have h16 := e.h16
  have q0 := e.st (n := n) (by omega)
  obtain ⟨t, h1, h2⟩ := msm e rfl
  refine OUT.thr (v := M 18 (16 * k + n)) (C' := up2 C (27 + k) 2 (nI n)) (M' := M) q0.2 ?_ ?_ (e.1.1.ch _)
  · rw [show pX6_throwOrHandle C 43 = (ic (C 1 10) 8 fun k1 => bn2 (pX2_pop C k1) fun r1 M1 => some (r1, M1)) from rfl, ic_of _ e.f hk (by omega), cpop e.hh (by omega), bn2_s, q0.1]
  · rw [h1, h2 n rfl, show ∀ t, pX9_actSmall_b16 M (nI 43) t = (bn (pX9_throwIt M t) fun M50 => some M50) from fun _ => rfl, bn_eta]
theorem R1.hset {C M : St} {k : Nat} (h : R1 C M k) {x y z : Int32} {M' : St} (hM : ∀ b, b ≠ 16 → b ≠ 20 → M' b = M b) (hM2 : ∀ i, i ≠ k → M' 16 i = M 16 i ∧ M' 20 i = M 20 i) (hx : (x = MIN ∧ M' 16 k = -1) ∨ (x = M' 20 k ∧ M' 16 k = 1 ∧ ¬ x = MIN)) : R1 (up2 C (27 + k) 5 x) M' k := by
  have hk := h.k
  have hre : RE (up2 C (27 + k) 5 x) M' := by
    have q := h.1.leftF 5 (a := 27 + k) (by omega) (by omega) x
    refine ⟨fun p hp => ?_, fun r hr => ?_⟩
    · have := scl_lo p hp
      rw [hM _ (by omega) (by omega)]
      exact q.1 p hp
    · have := rws_lo r hr
      rw [hM _ (by omega) (by omega)]
      exact q.2 r hr
  have hinv : INV M' := by
    have q := h.2.1
    unfold INV at q ⊢
    rw [hM 1 (by decide) (by decide), hM 2 (by decide) (by decide), hM 3 (by decide) (by decide), hM 4 (by decide) (by decide), hM 0 (by decide) (by decide), hM 10 (by decide) (by decide), hM 6 (by decide) (by decide), hM 7 (by decide) (by decide), hM 8 (by decide) (by decide)]
    exact q
  refine h.congrS hre hinv (fun z _ => up2_cell _ _ _ _ _ _ (Or.inl (by omega))) (fun i hi => ?_) (fun i hi => ⟨up2_cell _ _ _ _ _ _ (Or.inr (by decide)), up2_cell _ _ _ _ _ _ (Or.inr (by decide))⟩) (fun i z hi _ => up2_cell _ _ _ _ _ _ (Or.inl (by omega))) (fun _ _ => by rw [hM 0 (by decide) (by decide)]) (fun _ _ => ⟨by rw [hM 15 (by decide) (by decide)], by rw [hM 19 (by decide) (by decide)]⟩) (fun _ _ => by rw [hM 18 (by decide) (by decide)])
  obtain ⟨q1, q2, q3⟩ := h.2.2.2.2.1 i hi
  refine ⟨?_, ?_, fun z hz => ?_⟩
  · rw [up2_cell _ _ _ _ _ _ (Or.inr (by decide)), hM 14 (by decide) (by decide)]; exact q1
  · by_cases w : i = k
    · subst w
      rw [up2_at]
      exact hx
    · rw [up2_cell _ _ _ _ _ _ (Or.inl (by omega)), (hM2 i w).1, (hM2 i w).2]; exact q2
  · rw [up2_cell _ _ _ _ _ _ (Or.inl (by omega)), hM 17 (by decide) (by decide)]; exact q3 z hz
theorem R2.hset {C M : St} {k h : Nat} (r : R2 C M k h) {x : Int32} {M' : St} (hM : ∀ b, b ≠ 16 → b ≠ 20 → M' b = M b) (hM2 : ∀ i, i ≠ k → M' 16 i = M 16 i ∧ M' 20 i = M 20 i) (hx : (x = MIN ∧ M' 16 k = -1) ∨ (x = M' 20 k ∧ M' 16 k = 1 ∧ ¬ x = MIN)) : R2 (up2 C (27 + k) 5 x) M' k h := by
  have hk := r.1.k
  refine ⟨r.1.hset (y := 0) (z := 0) hM hM2 hx, r.2.1, ?_, ?_, fun z hz => ?_⟩
  · rw [up2_cell _ _ _ _ _ _ (Or.inr (by decide))]; exact r.2.2.1
  · rw [hM 19 (by decide) (by decide)]; exact r.2.2.2.1
  · rw [up2_cell _ _ _ _ _ _ (Or.inl (by omega)), hM 18 (by decide) (by decide)]; exact r.2.2.2.2 z hz
theorem op_44 {C M : St} {k h p : Nat} (e : EX C M k h p 44 2) : OUT (pX6_throwOrHandle C 44) (mgo M (some 0)) := by
  have hk := e.k
  have hl := e.pl
  obtain ⟨t, h1, -⟩ := msm e rfl
  have hne : ¬ nI p + (M 1 (p + 1)).toInt8.toInt32 = MIN := by
    intro q
    have q2 : (nI p + (M 1 (p + 1)).toInt8.toInt32).toInt = -1024 := by rw [q]; rfl
    have b1 := Int8.le_toInt (M 1 (p + 1)).toInt8
    have b2 := Int8.toInt_lt (M 1 (p + 1)).toInt8
    rw [Int32.toInt_add, nI_toInt (by omega), Int8.toInt_toInt32, Int.bmod_def] at q2
    omega
  have rr : R2 (up2 C (27 + k) 5 (nI p + (M 1 (p + 1)).toInt8.toInt32)) (up2 (up2 M 16 k 1) 20 k (nI p + (M 1 (p + 1)).toInt8.toInt32)) k h := by
    refine e.1.hset (fun b h1 h2 => by rw [up2_row _ _ _ _ _ h2, up2_row _ _ _ _ _ h1]) (fun i hi => ⟨?_, ?_⟩) (Or.inr ⟨(up2_at _ _ _ _).symm, ?_, hne⟩)
    · rw [up2_cell _ _ _ _ _ _ (Or.inr hi), up2_cell _ _ _ _ _ _ (Or.inr hi)]
    · rw [up2_cell _ _ _ _ _ _ (Or.inr hi), up2_cell _ _ _ _ _ _ (Or.inl (by decide))]
    · rw [up2_cell _ _ _ _ _ _ (Or.inl (by decide)), up2_at]
  refine OUT.go (C' := up2 C (27 + k) 5 (nI p + (M 1 (p + 1)).toInt8.toInt32)) (M' := up2 (up2 (up2 M 16 k 1) 20 k (nI p + (M 1 (p + 1)).toInt8.toInt32)) 15 k (nI (p + 2))) ?_ ?_ ⟨rr.mp _, ?_⟩
  · rw [show pX6_throwOrHandle C 44 = (ic (C 1 10) 8 fun k2 => bn (pX6_signed C 1) fun r2 => lt (up2 C (27 + k2) 5 ((C 1 11) + r2)) fun M2 => some (65536, M2)) from rfl, ic_of _ e.f hk (by omega), csig (x := 1) (j := 1) e.at' rfl (by omega), bn_s, e.at', e.code]
    rfl
  · rw [h1, show pX9_actSmall_b16 M (nI 44) t = (bn (pX9_top M) fun r4 => gd (inb r4 8) <| lt (up2 M 16 (ix r4) 1) fun M51 => bn (pX9_top M51) fun r5 => bn (pX9_here M51) fun r6 => bn (pX9_signed M51 1) fun r7 => gd (inb r5 8) <| lt (up2 M51 20 (ix r5) (r6 + r7)) fun M52 => bn (pX9_on M52 2) fun M53 => some M53) from rfl, mtop e.m, bn_s, gd_t (inb_nI hk (by decide)), ix_nI (by omega), lt_s', mtop (M := up2 M 16 k 1) (k := k) e.m, bn_s, mhere (M := up2 M 16 k 1) (k := k) e.m hk, bn_s, msig (M := up2 M 16 k 1) (k := k) (p := p) (x := 1) (j := 1) e.m hk e.mp rfl (by omega), bn_s, gd_t (inb_nI hk (by decide)), ix_nI (by omega), lt_s', bn_eta, show (up2 M 16 k 1) 15 k = nI p from e.mp, show (up2 M 16 k 1) 1 (p + 1) = M 1 (p + 1) from rfl, mon (M := up2 (up2 M 16 k 1) 20 k _) (k := k) e.m hk, show (up2 (up2 M 16 k 1) 20 k (nI p + (M 1 (p + 1)).toInt8.toInt32)) 15 k = nI p from e.mp, show (2 : Int32) = nI 2 from rfl, nI_add]
  · rw [up2_cell _ _ _ _ _ _ (Or.inr (by decide)), up2_at, e.cp]
theorem op_45 {C M : St} {k h p : Nat} (e : EX C M k h p 45 1) : OUT (pX6_throwOrHandle C 45) (mgo M (some 0)) := by
  have hk := e.k
  have hl := e.pl
  obtain ⟨t, h1, -⟩ := msm e rfl
  have rr : R2 (up2 C (27 + k) 5 MIN) (up2 M 16 k (-1)) k h := by
    refine e.1.hset (fun b h1 h2 => by rw [up2_row _ _ _ _ _ h1]) (fun i hi => ⟨?_, rfl⟩) (Or.inl ⟨rfl, up2_at _ _ _ _⟩)
    rw [up2_cell _ _ _ _ _ _ (Or.inr hi)]
  refine OUT.go (C' := up2 C (27 + k) 5 MIN) (M' := up2 (up2 M 16 k (-1)) 15 k (nI (p + 1))) ?_ ?_ ⟨rr.mp _, ?_⟩
  · rw [show pX6_throwOrHandle C 45 = (ic (C 1 10) 8 fun k3 => lt (up2 C (27 + k3) 5 ((-1024))) fun M3 => some (65536, M3)) from rfl, ic_of _ e.f hk (by omega)]
    rfl
  · rw [h1, show pX9_actSmall_b16 M (nI 45) t = (bn (pX9_top M) fun r8 => gd (inb r8 8) <| lt (up2 M 16 (ix r8) ((-1))) fun M54 => bn (pX9_on M54 1) fun M55 => some M55) from rfl, mtop e.m, bn_s, gd_t (inb_nI hk (by decide)), ix_nI (by omega), lt_s', bn_eta, mon (M := up2 M 16 k (-1)) (k := k) e.m hk, show (up2 M 16 k (-1)) 15 k = nI p from e.mp, show (1 : Int32) = nI 1 from rfl, nI_add]
  · rw [up2_cell _ _ _ _ _ _ (Or.inr (by decide)), up2_at, e.cp]
