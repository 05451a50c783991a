/-! PART II, instructions 18 .. 23 -/
theorem op_18 {C M : St} {k h p : Nat} (e : EX C M k h p 18 1) (ht : 1 ≤ h) (h16 : h < 16) : OUT (pX6_move C 18) (mgo M (some 0)) := by
  obtain ⟨n, rfl⟩ : ∃ n, h = n + 1 := ⟨h - 1, by omega⟩
  have hk := e.k
  have q := e.st (n := n) (by omega)
  obtain ⟨t, h1, h2⟩ := msmall e.m e.k e.mh e.h16 (nI 18)
  refine OUT.rep (v := t) (x := 0) (d := 0) e rfl rfl h16 rfl ?_ ?_
  · rw [show pX6_move C 18 = (ic (C 1 10) 8 fun k5 => bn (pX2_top C k5) fun r12 => bn2 (pX6_put C r12) fun r13 M7 => some (r13, M7)) from rfl, ic_of _ e.f hk (by omega), ctop e.hh (by omega), bn_s, bn2_eta, cput_0 e.f hk e.hh h16, q.1, h2 n rfl]
  · rw [mgo_0 e, show pX9_act M (nI 18) = (bn (pX9_actSmall M (nI 18)) fun M5 => some M5) from rfl, bn_eta, h1, show pX9_actSmall_b16 M (nI 18) t = (bn (pX9_replace M 0 t) fun M17 => some M17) from rfl, bn_eta]
theorem op_19 {C M : St} {k h p : Nat} (e : EX C M k h p 19 1) (ht : 1 ≤ h) : OUT (pX6_move C 19) (mgo M (some 0)) := by
  obtain ⟨n, rfl⟩ : ∃ n, h = n + 1 := ⟨h - 1, by omega⟩
  have hk := e.k
  have h16 := e.h16
  obtain ⟨t, h1, h2⟩ := msmall e.m e.k e.mh e.h16 (nI 19)
  refine OUT.go (C' := up2 C (27 + k) 2 (nI n)) (M' := up2 (up2 M 19 k (nI n)) 15 k (nI (p + 1))) (k := k) (h := n) ?_ ?_ ⟨(e.1.drop (n := n) (by omega)).mp _, ?_⟩
  · rw [show pX6_move C 19 = (ic (C 1 10) 8 fun k6 => bn2 (pX2_pop C k6) fun r14 M8 => some (65536, M8)) from rfl, ic_of _ e.f hk (by omega), cpop e.hh (by omega), bn2_s]
  · rw [mgo_0 e, show pX9_act M (nI 19) = (bn (pX9_actSmall M (nI 19)) fun M5 => some M5) from rfl, bn_eta, h1, show pX9_actSmall_b16 M (nI 19) t = (bn (pX9_drop M 1) fun M18 => bn (pX9_on M18 1) fun M19 => some M19) from rfl, mdrop (x := 1) (n := 1) e.m e.k e.mh rfl (by omega), bn_s, bn_eta, mon (M := up2 M 19 k _) (k := k) e.m e.k, show (up2 M 19 k (nI (n + 1 - 1))) 15 k = nI p from e.mp, show (1 : Int32) = nI 1 from rfl, nI_add, Nat.add_sub_cancel]
  · rw [up2_cell _ _ _ _ _ _ (Or.inr (by decide)), up2_at, e.cp]
theorem op_20 {C M : St} {k h p : Nat} (e : EX C M k h p 20 1) (ht : 2 ≤ h) : OUT (pX6_move C 20) (mgo M (some 0)) := by
  obtain ⟨n, rfl⟩ : ∃ n, h = n + 2 := ⟨h - 2, by omega⟩
  have hk := e.k
  have h16 := e.h16
  have q0 := e.st (n := n) (by omega)
  have q1 := e.st (n := n + 1) (by omega)
  obtain ⟨t, h1, h2⟩ := msmall e.m e.k e.mh e.h16 (nI 20)
  have ht1 := h2 (n + 1) rfl
  have r0 := (e.1.drop (n := n) (by omega)).push (by omega) (S16_of (M 18 (16 * k + (n + 1))))
  have r1 := r0.push (by omega) (S16_of (M 18 (16 * k + n)))
  refine OUT.go ?_ ?_ ⟨r1.mp (nI (p + 1)), ?_⟩
  · rw [show pX6_move C 20 = (bn2 (pX6_swap C) fun r15 M9 => some (r15, M9)) from rfl, bn2_eta]
    unfold pX6_swap
    rw [ic_of _ e.f hk (by omega), cpop e.hh (by omega), bn2_s, ic_of _ (by rw [up2_cell _ _ _ _ _ _ (Or.inl (by omega))]; exact e.f) hk (by omega), cpop (up2_at _ _ _ _) (by omega), bn2_s, up2_twice, ic_of _ (by rw [up2_cell _ _ _ _ _ _ (Or.inl (by omega))]; exact e.f) hk (by omega), cpush (up2_at _ _ _ _) (by omega), bn_s, bn2_eta, up2_cell C _ _ _ _ _ (Or.inl (show 43 + k ≠ 27 + k by omega)), q0.1, q1.1, cput (k := k) (h := n + 1) r0.1.f hk r0.2.2.1 (by omega)]
  · rw [mgo_0 e, show pX9_act M (nI 20) = (bn (pX9_actSmall M (nI 20)) fun M5 => some M5) from rfl, bn_eta, h1, ht1, show ∀ t, pX9_actSmall_b16 M (nI 20) t = (bn (pX9_at M 1) fun r1 => bn (pX9_drop M 2) fun M20 => bn (pX9_put M20 t) fun M21 => bn (pX9_put M21 r1) fun M22 => bn (pX9_on M22 1) fun M23 => some M23) from fun _ => rfl, mat (x := 1) (j := 1) (n := n) e.m e.k e.mh h16 rfl (by omega), bn_s, mdrop (x := 2) (n := 2) e.m e.k e.mh rfl (by omega), bn_s, show n + 2 - 2 = n by omega, mput (M := up2 M 19 k (nI n)) (k := k) (h := n) e.m e.k (up2_at _ _ _ _) (by omega), bn_s, mput (k := k) (h := n + 1) r0.1.m e.k (up2_at _ _ _ _) (by omega), bn_s, mon (k := k) r1.1.m e.k, bn_s]
    congr 2
    show M 15 k + 1 = nI (p + 1)
    rw [e.mp, show (1 : Int32) = nI 1 from rfl, nI_add]
  · rw [up2_cell _ _ _ _ _ _ (Or.inr (by decide)), up2_cell _ _ _ _ _ _ (Or.inl (by omega)), up2_cell _ _ _ _ _ _ (Or.inr (by decide)), up2_cell _ _ _ _ _ _ (Or.inl (by omega)), up2_cell _ _ _ _ _ _ (Or.inr (by decide)), up2_at, e.cp]
-- jumps
theorem holds_eq (x y : Int32) : pX6_holds x y = pX9_holds x y := rfl
theorem holds_some (m : Nat) (hm : m < 6) (x : Int32) : ∃ r, pX9_holds (nI m) x = some r := by
  match m, hm with
  | 0, _ => show ∃ r, (if x = 0 then some 1 else some 0) = some r; split <;> exact ⟨_, rfl⟩
  | 1, _ => show ∃ r, (if x = 0 then some 0 else some 1) = some r; split <;> exact ⟨_, rfl⟩
  | 2, _ => show ∃ r, (if 0 ≤ x then some 0 else some 1) = some r; split <;> exact ⟨_, rfl⟩
  | 3, _ => show ∃ r, (if x < 0 then some 0 else some 1) = some r; split <;> exact ⟨_, rfl⟩
  | 4, _ => show ∃ r, (if x ≤ 0 then some 0 else some 1) = some r; split <;> exact ⟨_, rfl⟩
  | 5, _ => show ∃ r, (if 0 < x then some 0 else some 1) = some r; split <;> exact ⟨_, rfl⟩
theorem up2_same' {M : St} {a j : Nat} {v : Int32} (h : M a j = v) : up2 M a j v = M := by rw [← h]; exact up2_self _ _ _
theorem op_21 {C M : St} {k h p : Nat} (e : EX C M k h p 21 2) : OUT (pX6_jump C 21) (mgo M (some 0)) := by
  have hk := e.k
  have hl := e.pl
  refine OUT.go (C' := up2 C (27 + k) 4 (nI p + (M 1 (p + 1)).toInt8.toInt32)) (M' := up2 M 15 k (nI p + (M 1 (p + 1)).toInt8.toInt32)) (k := k) (h := h) ?_ ?_ ⟨(e.1.cp _).mp _, ?_⟩
  · rw [show pX6_jump C 21 = (ic (C 1 10) 8 fun k2 => bn (pX6_signed C 1) fun r2 => lt (up2 C (27 + k2) 4 ((C 1 11) + r2)) fun M2 => some (65536, M2)) from rfl, ic_of _ e.f hk (by omega), csig (x := 1) (j := 1) e.at' rfl (by omega), bn_s, e.at', e.code]
    rfl
  · rw [mgo_0 e, show pX9_act M (nI 21) = (bn (bn (pX9_signed M 1) fun r2 => bn (pX9_drop M 0) fun M7 => bn (pX9_on M7 r2) fun M9 => some M9) fun M1 => some M1) from rfl, bn_eta, msig (x := 1) (j := 1) e.m e.k e.mp rfl (by omega), bn_s, mdrop (x := 0) (n := 0) e.m e.k e.mh rfl (by omega), bn_s, Nat.sub_zero, up2_same' e.mh, bn_eta, mon e.m e.k, e.mp]
  · rw [up2_at, up2_at]
/-- the conditional jumps' end: n values stay; the class's state and the reference's before the condition -/
theorem jumpc {C M : St} {k h p j n : Nat} (e : EX C M k h p j 3) (hn : n ≤ h) (v : Int32) {mr : Option St} (hm : ∀ r, pX9_holds (nI (ix (M 1 (p + 1)) % 6)) v = some r → mr = if r = 0 then some (up2 (up2 M 19 k (nI n)) 15 k (nI (p + 3))) else some (up2 (up2 M 19 k (nI n)) 15 k (nI p + (M 1 (p + 2)).toInt8.toInt32))) {cr : Option (Int32 × St)}
    (hc : cr = bn (pX9_holds (nI (ix (M 1 (p + 1)) % 6)) v) fun r3 => if r3 = 0 then some (65536, up2 C (27 + k) 2 (nI n)) else ic ((up2 C (27 + k) 2 (nI n)) 1 10) 8 fun k2 => bn (pX6_signed (up2 C (27 + k) 2 (nI n)) 2) fun r4 => lt (up2 (up2 C (27 + k) 2 (nI n)) (27 + k2) 4 (((up2 C (27 + k) 2 (nI n)) 1 11) + r4)) fun M2 => some (65536, M2)) : OUT cr mr := by
  have hk := e.k
  have hl := e.pl
  obtain ⟨r, hr⟩ := holds_some (ix (M 1 (p + 1)) % 6) (Nat.mod_lt _ (by decide)) v
  rw [hr, bn_s] at hc
  have hm := hm r hr
  have r1 := e.1.drop hn
  have c1 : (up2 C (27 + k) 2 (nI n)) 1 11 = nI p := by rw [up2_cell _ _ _ _ _ _ (Or.inl (by omega))]; exact e.at'
  have c4 : (up2 C (27 + k) 2 (nI n)) 4 = M 1 := by rw [up2_row _ _ _ _ _ (by omega)]; exact e.code
  by_cases z : r = 0
  · rw [if_pos z] at hc hm
    refine OUT.go hc hm ⟨r1.mp _, ?_⟩
    rw [up2_cell _ _ _ _ _ _ (Or.inr (by decide)), up2_at, e.cp]
  · rw [if_neg z] at hc hm
    rw [ic_of _ r1.1.f hk (by omega), csig (x := 2) (j := 2) c1 rfl (by omega), bn_s, c1, c4] at hc
    refine OUT.go hc hm ⟨(r1.cp _).mp _, ?_⟩
    rw [up2_at, up2_at]
theorem rem6 {M : St} {C : St} {k h p j len : Nat} (e : EX C M k h p j len) : M 1 (p + 1) - M 1 (p + 1) / 6 * 6 = nI (ix (M 1 (p + 1)) % 6) := by
  obtain ⟨b, hb, eb⟩ := e.byte (p + 1)
  rw [eb, ix_nI (by omega), show (6 : Int32) = nI 6 from rfl, nI_remN (by omega) (by decide) (by decide)]
theorem op_22 {C M : St} {k h p : Nat} (e : EX C M k h p 22 3) (ht : 1 ≤ h) : OUT (pX6_jump C 22) (mgo M (some 0)) := by
  obtain ⟨n, rfl⟩ : ∃ n, h = n + 1 := ⟨h - 1, by omega⟩
  have hk := e.k
  have hl := e.pl
  have h16 := e.h16
  have q0 := e.st (n := n) (by omega)
  refine jumpc e (n := n) (by omega) (M 18 (16 * k + n)) (fun r hr => ?_) ?_
  · rw [mgo_0 e, show pX9_act M (nI 22) = (bn (bn (pX9_at M 0) fun r3 => bn (pX9_byteAt M 1) fun r1 => bn (pX9_holds (r1 - r1 / 6 * 6) r3) fun r2 => if r2 = 0 then bn (pX9_signed M 2) fun r1 => bn (pX9_drop M 1) fun M4 => bn (some 3) fun r2 => bn (pX9_on M4 r2) fun M5 => some M5 else bn (pX9_signed M 2) fun r1 => bn (pX9_drop M 1) fun M4 => bn (pX9_on M4 r1) fun M6 => some M6) fun M1 => some M1) from rfl, bn_eta, mat (x := 0) (j := 0) (n := n) e.m e.k e.mh h16 rfl (by omega), bn_s, mbyte (x := 1) (j := 1) e.m e.k e.mp rfl (by omega), bn_s, rem6 e, hr, bn_s, msig (x := 2) (j := 2) e.m e.k e.mp rfl (by omega), bn_s, mdrop (x := 1) (n := 1) e.m e.k e.mh rfl (by omega), bn_s, bn_s, bn_eta, bn_s, bn_s, bn_eta, Nat.add_sub_cancel, mon (M := up2 M 19 k (nI n)) (k := k) e.m e.k, mon (M := up2 M 19 k (nI n)) (k := k) e.m e.k, show (up2 M 19 k (nI n)) 15 k = nI p from e.mp, show (3 : Int32) = nI 3 from rfl, nI_add]
  · rw [show pX6_jump C 22 = (bn (pX6_unsigned C 1) fun r1 => ic (C 1 10) 8 fun k1 => bn2 (pX2_pop C k1) fun r2 M1 => bn (pX6_holds (r1 - r1 / 6 * 6) (r2 - 0)) fun r3 => if r3 = 0 then some (65536, M1) else ic (M1 1 10) 8 fun k2 => bn (pX6_signed M1 2) fun r4 => lt (up2 M1 (27 + k2) 4 ((M1 1 11) + r4)) fun M2 => some (65536, M2)) from rfl, cuns (x := 1) (j := 1) e.at' rfl (by omega), bn_s, ic_of _ e.f hk (by omega), cpop e.hh (by omega), bn2_s, e.code, rem6 e, holds_eq, q0.1, Int32.sub_zero]
theorem op_23 {C M : St} {k h p : Nat} (e : EX C M k h p 23 3) (ht : 2 ≤ h) : OUT (pX6_jump C 23) (mgo M (some 0)) := by
  obtain ⟨n, rfl⟩ : ∃ n, h = n + 2 := ⟨h - 2, by omega⟩
  have hk := e.k
  have hl := e.pl
  have h16 := e.h16
  have q0 := e.st (n := n) (by omega)
  have q1 := e.st (n := n + 1) (by omega)
  refine jumpc e (n := n) (by omega) (M 18 (16 * k + n) - M 18 (16 * k + (n + 1))) (fun r hr => ?_) ?_
  · rw [mgo_0 e, show pX9_act M (nI 23) = (bn (bn (pX9_at M 1) fun r1 => bn (pX9_at M 0) fun r2 => bn (pX9_byteAt M 1) fun r3 => bn (pX9_holds (r3 - r3 / 6 * 6) (r1 - r2)) fun r2 => if r2 = 0 then bn (pX9_signed M 2) fun r1 => bn (pX9_drop M 2) fun M4 => bn (some 3) fun r2 => bn (pX9_on M4 r2) fun M5 => some M5 else bn (pX9_signed M 2) fun r1 => bn (pX9_drop M 2) fun M4 => bn (pX9_on M4 r1) fun M6 => some M6) fun M1 => some M1) from rfl, bn_eta, mat (x := 1) (j := 1) (n := n) e.m e.k e.mh h16 rfl (by omega), bn_s, mat (x := 0) (j := 0) (n := n + 1) e.m e.k e.mh h16 rfl (by omega), bn_s, mbyte (x := 1) (j := 1) e.m e.k e.mp rfl (by omega), bn_s, rem6 e, hr, bn_s, msig (x := 2) (j := 2) e.m e.k e.mp rfl (by omega), bn_s, mdrop (x := 2) (n := 2) e.m e.k e.mh rfl (by omega), bn_s, bn_s, bn_eta, bn_s, bn_s, bn_eta, Nat.add_sub_cancel, mon (M := up2 M 19 k (nI n)) (k := k) e.m e.k, mon (M := up2 M 19 k (nI n)) (k := k) e.m e.k, show (up2 M 19 k (nI n)) 15 k = nI p from e.mp, show (3 : Int32) = nI 3 from rfl, nI_add]
  · rw [show pX6_jump C 23 = (ic (C 1 10) 8 fun k1 => bn2 (pX2_pop C k1) fun r1 M1 => bn (pX6_unsigned M1 1) fun r2 => ic (M1 1 10) 8 fun k1 => bn2 (pX2_pop M1 k1) fun r3 M1 => bn (pX6_holds (r2 - r2 / 6 * 6) (r3 - r1)) fun r3 => if r3 = 0 then some (65536, M1) else ic (M1 1 10) 8 fun k2 => bn (pX6_signed M1 2) fun r4 => lt (up2 M1 (27 + k2) 4 ((M1 1 11) + r4)) fun M2 => some (65536, M2)) from rfl, ic_of _ e.f hk (by omega), cpop e.hh (by omega), bn2_s, cuns (x := 1) (j := 1) (p := p) (by rw [up2_cell _ _ _ _ _ _ (Or.inl (by omega))]; exact e.at') rfl (by omega), bn_s, ic_of _ (by rw [up2_cell _ _ _ _ _ _ (Or.inl (by omega))]; exact e.f) hk (by omega), cpop (up2_at _ _ _ _) (by omega), bn2_s, up2_twice, up2_row _ _ _ _ _ (show 4 ≠ 27 + k by omega), up2_cell _ _ _ _ _ _ (Or.inl (show 43 + k ≠ 27 + k by omega)), e.code, rem6 e, holds_eq, q0.1, q1.1]
