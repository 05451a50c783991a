/-! PART II, instructions 0 .. 23 -/
theorem x16 (y : Int32) : (0 ≤ y ^^^ 16) ↔ 0 ≤ y := by
  rw [Int32.le_iff_toInt_le, Int32.le_iff_toInt_le]
  have e1 : (y ^^^ 16).toBitVec.msb = y.toBitVec.msb := by
    rw [Int32.toBitVec_xor, BitVec.msb_xor, show (16 : Int32).toBitVec.msb = false from by decide]
    simp
  have e2 : ∀ z : Int32, z.toBitVec.msb = decide (z.toInt < 0) := fun z => BitVec.msb_eq_toInt
  rw [e2, e2] at e1
  have e3 : ((y ^^^ 16).toInt < 0) ↔ (y.toInt < 0) := by simpa using e1
  show (0 : Int) ≤ _ ↔ (0 : Int) ≤ _
  omega
theorem fm16 (y : Int32) : pJ9_floorMod_7cf53 y 16 = some (y &&& 15) := by
  have hR : (y - y / 16 * 16).toInt = y.toInt.tmod 16 := by
    have b1 := Int32.le_toInt y
    have b2 := Int32.toInt_lt y
    have d : (y / 16).toInt = y.toInt.tdiv 16 := Int32.toInt_div_of_ne_right y 16 (by decide)
    rw [Int32.toInt_sub, Int32.toInt_mul, d, show (16 : Int32).toInt = 16 from rfl]
    have m : y.toInt.tdiv 16 * 16 + y.toInt.tmod 16 = y.toInt := Int.tdiv_mul_add_tmod _ _
    have m1 : -16 < y.toInt.tmod 16 ∧ y.toInt.tmod 16 < 16 ∧ (y.toInt < 0 → y.toInt.tmod 16 ≤ 0) ∧ (0 ≤ y.toInt → 0 ≤ y.toInt.tmod 16) := by
      by_cases q : y.toInt < 0
      · have h0 := Int.tmod_nonneg (a := -y.toInt) 16 (by omega)
        rw [Int.neg_tmod] at h0
        have h2 := Int.lt_tmod_of_pos y.toInt (b := 16) (by decide)
        omega
      · have q2 : 0 ≤ y.toInt := by omega
        have := Int.tmod_nonneg 16 q2
        have h2 := Int.tmod_lt_of_pos y.toInt (b := 16) (by decide)
        omega
    have e0 : (y.toInt.tdiv 16 * 16).bmod (2 ^ 32) = y.toInt.tdiv 16 * 16 := by
      rw [Int.bmod_def]; omega
    rw [e0]
    rw [Int.bmod_def]; omega
  obtain ⟨a, ha, ea⟩ := pk_andE y (m := 15) 4 (by decide)
  have ea2 := pk_and y (m := 15) 4 (by decide)
  have hy : y.toInt = if 2 * y.toBitVec.toNat < 2 ^ 32 then (y.toBitVec.toNat : Int) else (y.toBitVec.toNat : Int) - (2 ^ 32 : Nat) := BitVec.toInt_eq_toNat_cond y.toBitVec
  have hu := y.toBitVec.isLt
  have hA : (y &&& 15).toInt = ((y.toBitVec.toNat % 16 : Nat) : Int) := by rw [ea2]; exact nI_toInt (by omega)
  unfold pJ9_floorMod_7cf53
  rw [gd_t (by decide)]
  by_cases s : 0 ≤ y
  · rw [if_pos ((x16 y).mpr s)]
    congr 1
    apply Int32.toInt_inj.mp
    have s' : (0 : Int) ≤ y.toInt := Int32.le_iff_toInt_le.mp s
    rw [hR, hA, Int.tmod_eq_emod_of_nonneg s']
    split at hy <;> omega
  · rw [if_neg (fun q => s ((x16 y).mp q))]
    have s' : y.toInt < 0 := by
      have : ¬ (0 : Int) ≤ y.toInt := fun q => s (Int32.le_iff_toInt_le.mpr q)
      omega
    have tm : y.toInt.tmod 16 = if y.toInt % 16 = 0 then 0 else y.toInt % 16 - 16 := by
      rw [Int.tmod_eq_emod]
      by_cases z : y.toInt % 16 = 0
      · rw [if_pos z]
        have : (16 : Int) ∣ y.toInt := Int.dvd_of_emod_eq_zero z
        simp [this, z]
      · rw [if_neg z]
        have h1 : ¬ (16 : Int) ∣ y.toInt := fun q => z (Int.emod_eq_zero_of_dvd q)
        have h2 : ¬ (0 : Int) ≤ y.toInt := by omega
        simp [h1, h2]
    by_cases z : y - y / 16 * 16 = 0
    · rw [if_pos z]
      congr 1
      apply Int32.toInt_inj.mp
      rw [hA, hR]
      have z' : (y - y / 16 * 16).toInt = 0 := by rw [z]; rfl
      rw [hR] at z'
      rw [z']
      rw [tm] at z'
      split at z' <;> split at hy <;> omega
    · rw [if_neg z]
      congr 1
      apply Int32.toInt_inj.mp
      have z' : ¬ y.toInt.tmod 16 = 0 := fun q => z (Int32.toInt_inj.mp (by rw [hR, q]; rfl))
      rw [Int32.toInt_add, hA, hR, show (16 : Int32).toInt = 16 from rfl]
      rw [tm] at z' ⊢
      by_cases w : y.toInt % 16 = 0
      · rw [if_pos w] at z'; exact absurd rfl z'
      · rw [if_neg w]
        rw [show y.toInt % 16 - 16 + 16 = y.toInt % 16 by omega, Int.bmod_def]
        split at hy <;> omega
theorem op_reck {C M : St} {k h p j : Nat} (gc : Int32 → Int32 → Int32 → Int32) (gm : Int32 → Int32 → Int32) (hg : ∀ x y, gc x y (y &&& 15) = gm x y)
    (hc : ∀ C : St, pX6_reckon C j = ic (C 1 10) 8 fun k1 => bn2 (pX2_pop C k1) fun r1 M1 => ic (M1 1 10) 8 fun k2 => bn2 (pX2_pop M1 k2) fun r2 M2 => bn (pJ9_floorMod_7cf53 r1 16) fun r3 => bn2 (pX6_put M2 (gc r2 r1 r3)) fun r5 M4 => some (r5, M4))
    (hm : ∀ M : St, pX9_act M (nI j) = bn (pX9_at M 1) fun r1 => bn (pX9_at M 0) fun r2 => bn (some (gm r1 r2)) fun r3 => bn (pX9_replace M 2 r3) fun M1 => some M1)
    (e : EX C M k h p j 1) (ht : 2 ≤ h) : OUT (pX6_reckon C j) (mgo M (some 0)) := by
  obtain ⟨n, rfl⟩ : ∃ n, h = n + 2 := ⟨h - 2, by omega⟩
  have h16 := e.1.2.1
  have hk := e.1.1.k
  have hf := e.1.1.f
  have hh := e.1.2.2.1
  have q0 := (e.1.2.2.2.2 n (by omega)).1
  have q1 := (e.1.2.2.2.2 (n + 1) (by omega)).1
  refine OUT.rep (v := gm (C (43 + k) n) (C (43 + k) (n + 1))) (x := 2) (d := 2) e rfl rfl (by omega) rfl ?_ ?_
  · rw [hc, ic_of _ hf hk (by omega), cpop hh (by omega), bn2_s, ic_of _ (by rw [up2_cell _ _ _ _ _ _ (Or.inl (by omega))]; exact hf) hk (by omega), cpop (up2_at _ _ _ _) (by omega), bn2_s, up2_twice, up2_cell _ _ _ _ _ _ (Or.inl (by omega)), fm16, bn_s, bn2_eta, cput_d hf hk (by omega), hg]
  · rw [mgo_0 e, hm, mat (x := 1) (j := 1) (n := n) e.1.1.m hk e.1.2.2.2.1 h16 rfl (by omega), bn_s, mat (x := 0) (j := 0) (n := n + 1) e.1.1.m hk e.1.2.2.2.1 h16 rfl (by omega), bn_s, bn_s, bn_eta, q0, q1]
theorem op_6 {C M : St} {k h p : Nat} (e : EX C M k h p 6 1) (ht : 2 ≤ h) : OUT (pX6_reckon C 6) (mgo M (some 0)) :=
  op_reck (fun x y _ => x + y) (fun x y => x + y) (fun _ _ => rfl) (fun _ => rfl) (fun _ => rfl) e ht
theorem op_7 {C M : St} {k h p : Nat} (e : EX C M k h p 7 1) (ht : 2 ≤ h) : OUT (pX6_reckon C 7) (mgo M (some 0)) :=
  op_reck (fun x y _ => x - y) (fun x y => x - y) (fun _ _ => rfl) (fun _ => rfl) (fun _ => rfl) e ht
theorem op_8 {C M : St} {k h p : Nat} (e : EX C M k h p 8 1) (ht : 2 ≤ h) : OUT (pX6_reckon C 8) (mgo M (some 0)) :=
  op_reck (fun x y _ => x * y) (fun x y => x * y) (fun _ _ => rfl) (fun _ => rfl) (fun _ => rfl) e ht
theorem op_12 {C M : St} {k h p : Nat} (e : EX C M k h p 12 1) (ht : 2 ≤ h) : OUT (pX6_reckon C 12) (mgo M (some 0)) :=
  op_reck (fun x y _ => x &&& y) (fun x y => x &&& y) (fun _ _ => rfl) (fun _ => rfl) (fun _ => rfl) e ht
theorem op_13 {C M : St} {k h p : Nat} (e : EX C M k h p 13 1) (ht : 2 ≤ h) : OUT (pX6_reckon C 13) (mgo M (some 0)) :=
  op_reck (fun x y _ => x ||| y) (fun x y => x ||| y) (fun _ _ => rfl) (fun _ => rfl) (fun _ => rfl) e ht
theorem op_14 {C M : St} {k h p : Nat} (e : EX C M k h p 14 1) (ht : 2 ≤ h) : OUT (pX6_reckon C 14) (mgo M (some 0)) :=
  op_reck (fun x y _ => x ^^^ y) (fun x y => x ^^^ y) (fun _ _ => rfl) (fun _ => rfl) (fun _ => rfl) e ht
theorem op_15 {C M : St} {k h p : Nat} (e : EX C M k h p 15 1) (ht : 2 ≤ h) : OUT (pX6_reckon C 15) (mgo M (some 0)) :=
  op_reck (fun x _ z => x <<< (z &&& 31)) (fun x y => x <<< ((y &&& 15) &&& 31)) (fun _ _ => rfl) (fun _ => rfl) (fun _ => rfl) e ht
theorem op_16 {C M : St} {k h p : Nat} (e : EX C M k h p 16 1) (ht : 2 ≤ h) : OUT (pX6_reckon C 16) (mgo M (some 0)) :=
  op_reck (fun x _ z => x >>> (z &&& 31)) (fun x y => x >>> ((y &&& 15) &&& 31)) (fun _ _ => rfl) (fun _ => rfl) (fun _ => rfl) e ht
theorem ush16 (x y : Int32) : ((x &&& 65535).toUInt32 >>> ((y &&& 15).toUInt32 &&& Int32.toUInt32 31)).toInt32 = (x &&& 65535) >>> ((y &&& 15) &&& 31) := by
  obtain ⟨a, ha, ea⟩ := pk_andE x (m := 65535) 16 (by decide)
  obtain ⟨b, hb, eb⟩ := pk_andE y (m := 15) 4 (by decide)
  rw [ea, eb]
  have s1 : ∀ b, b < 16 → (((nI b).toUInt32 &&& Int32.toUInt32 31).toBitVec % 32).toNat = b := by decide
  have s2 : ∀ b, b < 16 → ((nI b &&& 31).toBitVec.smod 32).toNat = b := by decide
  rw [pk_ushrN (n := a) (by omega) (nI b) b (s1 b (by omega)), pk_shrN (n := a) (by omega) (nI b &&& 31) b (s2 b (by omega))]
theorem op_17 {C M : St} {k h p : Nat} (e : EX C M k h p 17 1) (ht : 2 ≤ h) : OUT (pX6_reckon C 17) (mgo M (some 0)) :=
  op_reck (fun x _ z => ((x &&& 65535).toUInt32 >>> (z.toUInt32 &&& Int32.toUInt32 31)).toInt32) (fun x y => (x &&& 65535) >>> ((y &&& 15) &&& 31)) (fun x y => ush16 x y) (fun _ => rfl) (fun _ => rfl) e ht
theorem op_11 {C M : St} {k h p : Nat} (e : EX C M k h p 11 1) (ht : 1 ≤ h) : OUT (pX6_reckon C 11) (mgo M (some 0)) := by
  obtain ⟨n, rfl⟩ : ∃ n, h = n + 1 := ⟨h - 1, by omega⟩
  have h16 := e.1.2.1
  have hk := e.1.1.k
  have hf := e.1.1.f
  have hh := e.1.2.2.1
  have q0 := (e.1.2.2.2.2 n (by omega)).1
  refine OUT.rep (v := -(C (43 + k) n)) (x := 1) (d := 1) e rfl rfl (by omega) rfl ?_ ?_
  · rw [show pX6_reckon C 11 = (ic (C 1 10) 8 fun k1 => bn2 (pX2_pop C k1) fun r1 M1 => bn2 (pX6_put M1 (-r1)) fun r15 M14 => some (r15, M14)) from rfl, ic_of _ hf hk (by omega), cpop hh (by omega), bn2_s, bn2_eta, cput_d hf hk (by omega)]
  · rw [mgo_0 e, show pX9_act M (nI 11) = (bn (bn (pX9_depth M) fun r1 => if r1 ≤ 0 then pX9_actSmall_b16 M 11 0 else bn (pX9_at M 0) fun r2 => pX9_actSmall_b16 M 11 r2) fun M5 => some M5) from rfl, mdepth e.1.1.m hk e.1.2.2.2.1, bn_s, if_neg (nI_nle (by omega) (by omega)), mat (x := 0) (j := 0) (n := n) e.1.1.m hk e.1.2.2.2.1 h16 rfl (by omega), bn_s, bn_eta, show ∀ t, pX9_actSmall_b16 M 11 t = (bn (pX9_replace M 1 (-t)) fun M10 => some M10) from fun _ => rfl, bn_eta, q0]
theorem op_9 {C M : St} {k h p : Nat} (e : EX C M k h p 9 1) (ht : 2 ≤ h) : OUT (pX6_reckon C 9) (mgo M (bn (pX9_at M 0) fun r10 => if r10 = 0 then some 1 else some 0)) := by
  obtain ⟨n, rfl⟩ : ∃ n, h = n + 2 := ⟨h - 2, by omega⟩
  have h16 := e.1.2.1
  have hk := e.1.1.k
  have hf := e.1.1.f
  have hh := e.1.2.2.1
  have q0 := (e.1.2.2.2.2 n (by omega)).1
  have q1 := (e.1.2.2.2.2 (n + 1) (by omega)).1
  rw [mat (x := 0) (j := 0) (n := n + 1) e.1.1.m hk e.1.2.2.2.1 h16 rfl (by omega), bn_s, show pX6_reckon C 9 = (ic (C 1 10) 8 fun k1 => bn2 (pX2_pop C k1) fun r1 M1 => ic (M1 1 10) 8 fun k2 => bn2 (pX2_pop M1 k2) fun r2 M2 => bn (pJ9_floorMod_7cf53 r1 16) fun r3 => if r1 = 0 then some (1, M2) else gd (r1 != 0) <| bn2 (pX6_put M2 (r2 / r1)) fun r8 M7 => some (r8, M7)) from rfl]
  rw [ic_of _ hf hk (by omega), cpop hh (by omega), bn2_s, ic_of _ (by rw [up2_cell _ _ _ _ _ _ (Or.inl (by omega))]; exact hf) hk (by omega), cpop (up2_at _ _ _ _) (by omega), bn2_s, up2_twice, up2_cell _ _ _ _ _ _ (Or.inl (by omega)), fm16, bn_s, ← q1]
  by_cases z : C (43 + k) (n + 1) = 0
  · rw [if_pos z, if_pos z]
    exact OUT.thr S16_1 rfl (mgo_f M (by decide)) (e.1.1.ch _)
  · rw [if_neg z, if_neg z, gd_t (by simpa using z), bn2_eta]
    refine OUT.rep (v := C (43 + k) n / C (43 + k) (n + 1)) (x := 2) (d := 2) e rfl rfl (by omega) rfl (cput_d hf hk (by omega) _) ?_
    rw [mgo_0 e, show pX9_act M (nI 9) = (bn (pX9_at M 1) fun r1 => bn (pX9_at M 0) fun r2 => bn (gd (r2 != 0) (some (r1 / r2))) fun r3 => bn (pX9_replace M 2 r3) fun M1 => some M1) from rfl, mat (x := 1) (j := 1) (n := n) e.1.1.m hk e.1.2.2.2.1 h16 rfl (by omega), bn_s, mat (x := 0) (j := 0) (n := n + 1) e.1.1.m hk e.1.2.2.2.1 h16 rfl (by omega), bn_s, ← q1, ← q0, gd_t (by simpa using z), bn_s, bn_eta]
theorem op_10 {C M : St} {k h p : Nat} (e : EX C M k h p 10 1) (ht : 2 ≤ h) : OUT (pX6_reckon C 10) (mgo M (bn (pX9_at M 0) fun r10 => if r10 = 0 then some 1 else some 0)) := by
  obtain ⟨n, rfl⟩ : ∃ n, h = n + 2 := ⟨h - 2, by omega⟩
  have h16 := e.1.2.1
  have hk := e.1.1.k
  have hf := e.1.1.f
  have hh := e.1.2.2.1
  have q0 := (e.1.2.2.2.2 n (by omega)).1
  have q1 := (e.1.2.2.2.2 (n + 1) (by omega)).1
  rw [mat (x := 0) (j := 0) (n := n + 1) e.1.1.m hk e.1.2.2.2.1 h16 rfl (by omega), bn_s, show pX6_reckon C 10 = (ic (C 1 10) 8 fun k1 => bn2 (pX2_pop C k1) fun r1 M1 => ic (M1 1 10) 8 fun k2 => bn2 (pX2_pop M1 k2) fun r2 M2 => bn (pJ9_floorMod_7cf53 r1 16) fun r3 => if r1 = 0 then some (1, M2) else gd (r1 != 0) <| bn2 (pX6_put M2 (r2 - r2 / r1 * r1)) fun r8 M7 => some (r8, M7)) from rfl]
  rw [ic_of _ hf hk (by omega), cpop hh (by omega), bn2_s, ic_of _ (by rw [up2_cell _ _ _ _ _ _ (Or.inl (by omega))]; exact hf) hk (by omega), cpop (up2_at _ _ _ _) (by omega), bn2_s, up2_twice, up2_cell _ _ _ _ _ _ (Or.inl (by omega)), fm16, bn_s, ← q1]
  by_cases z : C (43 + k) (n + 1) = 0
  · rw [if_pos z, if_pos z]
    exact OUT.thr S16_1 rfl (mgo_f M (by decide)) (e.1.1.ch _)
  · rw [if_neg z, if_neg z, gd_t (by simpa using z), bn2_eta]
    refine OUT.rep (v := C (43 + k) n - C (43 + k) n / C (43 + k) (n + 1) * C (43 + k) (n + 1)) (x := 2) (d := 2) e rfl rfl (by omega) rfl (cput_d hf hk (by omega) _) ?_
    rw [mgo_0 e, show pX9_act M (nI 10) = (bn (pX9_at M 1) fun r1 => bn (pX9_at M 0) fun r2 => bn (gd (r2 != 0) (some (r1 - r1 / r2 * r2))) fun r3 => bn (pX9_replace M 2 r3) fun M1 => some M1) from rfl, mat (x := 1) (j := 1) (n := n) e.1.1.m hk e.1.2.2.2.1 h16 rfl (by omega), bn_s, mat (x := 0) (j := 0) (n := n + 1) e.1.1.m hk e.1.2.2.2.1 h16 rfl (by omega), bn_s, ← q1, ← q0, gd_t (by simpa using z), bn_s, bn_eta]
