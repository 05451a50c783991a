/-! PART II, instructions 0 .. 5, 18 .. 23 -/
theorem EX.f {C M : St} {k h p j len : Nat} (e : EX C M k h p j len) : C 1 10 = nI k := e.1.1.f
theorem EX.k {C M : St} {k h p j len : Nat} (e : EX C M k h p j len) : k < 8 := e.1.1.k
theorem EX.m {C M : St} {k h p j len : Nat} (e : EX C M k h p j len) : M 0 24 = nI (k + 1) := e.1.1.m
theorem EX.hh {C M : St} {k h p j len : Nat} (e : EX C M k h p j len) : C (27 + k) 2 = nI h := e.1.2.2.1
theorem EX.mh {C M : St} {k h p j len : Nat} (e : EX C M k h p j len) : M 19 k = nI h := e.1.2.2.2.1
theorem EX.h16 {C M : St} {k h p j len : Nat} (e : EX C M k h p j len) : h ≤ 16 := e.1.2.1
theorem EX.at' {C M : St} {k h p j len : Nat} (e : EX C M k h p j len) : C 1 11 = nI p := e.2.1
theorem EX.mp {C M : St} {k h p j len : Nat} (e : EX C M k h p j len) : M 15 k = nI p := e.2.2.1
theorem EX.mj {C M : St} {k h p j len : Nat} (e : EX C M k h p j len) : M 1 p = nI j := e.2.2.2.1
theorem EX.pl {C M : St} {k h p j len : Nat} (e : EX C M k h p j len) : p + len ≤ 512 := e.2.2.2.2.1
theorem EX.cp {C M : St} {k h p j len : Nat} (e : EX C M k h p j len) : C (27 + k) 4 = nI (p + len) := e.2.2.2.2.2.1
theorem EX.code {C M : St} {k h p j len : Nat} (e : EX C M k h p j len) : C 4 = M 1 := e.1.1.1.r (by decide +kernel)
theorem EX.byte {C M : St} {k h p j len : Nat} (e : EX C M k h p j len) (i : Nat) : ∃ b, b < 256 ∧ M 1 i = nI b := e.1.1.2.1.1 i
theorem EX.st {C M : St} {k h p j len : Nat} (e : EX C M k h p j len) {n : Nat} (hn : n < h) : C (43 + k) n = M 18 (16 * k + n) ∧ S16 (M 18 (16 * k + n)) := e.1.2.2.2.2 n hn
theorem msmall {M : St} {k h : Nat} (hm : M 0 24 = nI (k + 1)) (hk : k < 8) (hh : M 19 k = nI h) (h16 : h ≤ 16) (x : Int32) : ∃ t, pX9_actSmall M x = pX9_actSmall_b16 M x t ∧ ∀ n, h = n + 1 → t = M 18 (16 * k + n) := by
  unfold pX9_actSmall
  rw [mdepth hm hk hh, bn_s]
  by_cases z : h = 0
  · subst z
    rw [if_pos (by decide)]
    exact ⟨0, rfl, fun n hn => by omega⟩
  · rw [if_neg (nI_nle (by omega) (by omega)), mat (x := 0) (j := 0) (n := h - 1) hm hk hh h16 rfl (by omega), bn_s]
    exact ⟨_, rfl, fun n hn => by rw [show h - 1 = n by omega]⟩
theorem mP_alt {M : St} {k h : Nat} (hh : M 19 k = nI h) (v p : Int32) : up2 (up2 (up2 M 15 k p) 18 (16 * k + h) v.toInt16.toInt32) 19 k (nI (h + 1)) = mP M k h v p := by
  unfold mP
  rw [← hh, up2_self, up2_comm M p _ (Or.inl (by decide)), up2_comm _ p _ (Or.inl (by decide))]
theorem mP_0 {M : St} {k h : Nat} (hh : M 19 k = nI h) (v p : Int32) : up2 (up2 (up2 M 18 (16 * k + h) v.toInt16.toInt32) 19 k (nI (h + 1))) 15 k p = mP M k h v p := by
  unfold mP
  rw [← hh, up2_self]
/-- an end with the stack as it was -/
theorem OUT.stay {C M : St} {k h p j len : Nat} {cr : Option (Int32 × St)} {mr : Option St} (e : EX C M k h p j len) (h1 : cr = some (65536, C)) (h2 : mr = some (up2 M 15 k (nI (p + len)))) : OUT cr mr :=
  OUT.go h1 h2 ⟨e.1.mp _, by rw [up2_at, e.cp]⟩
theorem op_0 {C M : St} {k h p : Nat} (e : EX C M k h p 0 1) : OUT (pX6_move C 0) (mgo M (some 0)) := by
  refine OUT.stay e rfl ?_
  obtain ⟨t, h1, -⟩ := msmall e.m e.k e.mh e.h16 (nI 0)
  rw [mgo_0 e, show pX9_act M (nI 0) = (bn (pX9_actSmall M (nI 0)) fun M5 => some M5) from rfl, bn_eta, h1, show pX9_actSmall_b16 M (nI 0) t = (bn (pX9_on M 1) fun M1 => some M1) from rfl, bn_eta, mon e.m e.k, e.mp, show (1 : Int32) = nI 1 from rfl, nI_add]
theorem op_1 {C M : St} {k h p : Nat} (e : EX C M k h p 1 2) (h16 : h < 16) : OUT (pX6_move C 1) (mgo M (some 0)) := by
  have hl := e.pl
  refine OUT.go (C' := cP C k h (M 1 (p + 1)).toInt8.toInt32) (M' := mP M k h (M 1 (p + 1)).toInt8.toInt32 (nI (p + 2))) ?_ ?_ (P_R3 e.1 (Nat.le_refl _) h16 e.cp)
  · rw [show pX6_move C 1 = (bn (pX6_signed C 1) fun r1 => bn2 (pX6_put C r1) fun r2 M1 => some (r2, M1)) from rfl, csig (x := 1) (j := 1) e.at' rfl (by omega), bn_s, bn2_eta, cput_0 e.f e.k e.hh h16, e.code]
  · obtain ⟨t, h1, -⟩ := msmall e.m e.k e.mh e.h16 (nI 1)
    rw [mgo_0 e, show pX9_act M (nI 1) = (bn (pX9_actSmall M (nI 1)) fun M5 => some M5) from rfl, bn_eta, h1, show pX9_actSmall_b16 M (nI 1) t = (bn (pX9_signed M 1) fun r3 => bn (pX9_on M 2) fun M3 => bn (pX9_put M3 r3) fun M4 => some M4) from rfl, msig (x := 1) (j := 1) e.m e.k e.mp rfl (by omega), bn_s, mon e.m e.k, bn_s, bn_eta, mput (M := up2 M 15 k _) (h := h) e.m e.k e.mh h16, mP_alt e.mh, e.mp, show (2 : Int32) = nI 2 from rfl, nI_add]
theorem op_2 {C M : St} {k h p : Nat} (e : EX C M k h p 2 3) (h16 : h < 16) : OUT (pX6_move C 2) (mgo M (some 0)) := by
  have hl := e.pl
  refine OUT.go (C' := cP C k h ((M 1 (p + 1)).toInt8.toInt32 <<< (8 &&& 31) ||| M 1 (p + 2))) (M' := mP M k h ((M 1 (p + 1)).toInt8.toInt32 <<< (8 &&& 31) ||| M 1 (p + 2)) (nI (p + 3))) ?_ ?_ (P_R3 e.1 (Nat.le_refl _) h16 e.cp)
  · rw [show pX6_move C 2 = (bn (pX6_signed C 1) fun r3 => bn (pX6_unsigned C 2) fun r4 => bn2 (pX6_put C ((r3 <<< (8 &&& 31)) ||| r4)) fun r5 M2 => some (r5, M2)) from rfl, csig (x := 1) (j := 1) e.at' rfl (by omega), bn_s, cuns (x := 2) (j := 2) e.at' rfl (by omega), bn_s, bn2_eta, cput_0 e.f e.k e.hh h16, e.code]
  · obtain ⟨t, h1, -⟩ := msmall e.m e.k e.mh e.h16 (nI 2)
    rw [mgo_0 e, show pX9_act M (nI 2) = (bn (pX9_actSmall M (nI 2)) fun M5 => some M5) from rfl, bn_eta, h1, show pX9_actSmall_b16 M (nI 2) t = (bn (pX9_signed M 1) fun r1 => bn (pX9_byteAt M 2) fun r2 => bn (pX9_on M 3) fun M1 => bn (pX9_put M1 ((r1 <<< (8 &&& 31)) ||| r2)) fun M2 => some M2) from rfl, msig (x := 1) (j := 1) e.m e.k e.mp rfl (by omega), bn_s, mbyte (x := 2) (j := 2) e.m e.k e.mp rfl (by omega), bn_s, mon e.m e.k, bn_s, bn_eta, mput (M := up2 M 15 k _) (h := h) e.m e.k e.mh h16, mP_alt e.mh, e.mp, show (3 : Int32) = nI 3 from rfl, nI_add]
theorem op_3 {C M : St} {k h p : Nat} (e : EX C M k h p 3 2) (h16 : h < 16) : OUT (pX6_move C 3) (mgo M (some 0)) := by
  have hl := e.pl
  have hk := e.k
  obtain ⟨b, hb, eb⟩ := e.byte (p + 1)
  have hb8 : b % 8 < 8 := Nat.mod_lt _ (by decide)
  have loc := (e.1.1.2.2.2.2.1 k (Nat.le_refl _)).2.2 (b % 8) hb8
  refine OUT.go (C' := cP C k h (M 17 (8 * k + b % 8))) (M' := mP M k h (M 17 (8 * k + b % 8)) (nI (p + 2))) ?_ ?_ (P_R3 e.1 (Nat.le_refl _) h16 e.cp)
  · rw [show pX6_move C 3 = (ic (C 1 10) 8 fun k1 => bn (pX6_unsigned C 1) fun r6 => gd (inb (r6 - r6 / 8 * 8) 8) <| bn2 (pX6_put C (C (35 + k1) (ix (r6 - r6 / 8 * 8)))) fun r7 M3 => some (r7, M3)) from rfl, ic_of _ e.f hk (by omega), cuns (x := 1) (j := 1) e.at' rfl (by omega), bn_s, e.code, eb, show (8 : Int32) = nI 8 from rfl, nI_remN (by omega) (by decide) (by decide), gd_t (inb_nI hb8 (by decide)), ix_nI (by omega), bn2_eta, cput_0 e.f e.k e.hh h16, loc.1]
  · rw [mgo_0 e, show pX9_act M (nI 3) = (bn (bn (pX9_top M) fun r1 => bn (pX9_byteAt M 1) fun r2 => gd (inb ((8 * r1) + (r2 - r2 / 8 * 8)) 64) <| bn (pX9_put M (M 17 (ix ((8 * r1) + (r2 - r2 / 8 * 8))))) fun M6 => bn (some 2) fun r7 => bn (pX9_on M6 r7) fun M7 => some M7) fun M1 => some M1) from rfl, bn_eta, mtop e.m, bn_s, mbyte (x := 1) (j := 1) e.m e.k e.mp rfl (by omega), bn_s, eb, show (8 : Int32) = nI 8 from rfl, nI_remN (by omega) (by decide) (by decide), nI_mulN, nI_add, gd_t (inb_nI (by omega) (by decide)), ix_nI (by omega), mput e.m e.k e.mh h16, bn_s, bn_s, bn_eta, mon (M := up2 (up2 M 18 _ _) 19 k _) (k := k) e.m e.k, show (up2 (up2 M 18 (16 * k + h) (M 17 (8 * k + b % 8)).toInt16.toInt32) 19 k (nI (h + 1))) 15 k = nI p from e.mp, mP_0 e.mh, show (2 : Int32) = nI 2 from rfl, nI_add]
-- the locals
theorem R1.congrS {C M C' M' : St} {k : Nat} (h : R1 C M k) (hre : RE C' M') (hinv : INV M') (c1 : ∀ j, (j = 9 ∨ j = 10 ∨ j = 12 ∨ j = 13) → C' 1 j = C 1 j) (hs : ∀ i, i ≤ k → FRs C' M' i) (c4 : ∀ i, i < k → C' (27 + i) 2 = C (27 + i) 2 ∧ C' (27 + i) 4 = C (27 + i) 4) (c5 : ∀ i j, i < k → j < 16 → C' (43 + i) j = C (43 + i) j)
    (m0 : ∀ i, (i = 11 ∨ i = 24 ∨ i = 31 ∨ i = 33 ∨ i = 34 ∨ i = 35) → M' 0 i = M 0 i) (m3 : ∀ i, i < k → M' 15 i = M 15 i ∧ M' 19 i = M 19 i) (m4 : ∀ z, z < 16 * k → M' 18 z = M 18 z) : R1 C' M' k := by
  obtain ⟨-, -, ⟨hk, h1, h2, h3⟩, ⟨h4, h5, h6, h7, h8, h9⟩, -, hd⟩ := h
  refine ⟨hre, hinv, ⟨hk, ?_, ?_, ?_⟩, ⟨?_, ?_, ?_, ?_, ?_, ?_⟩, hs, fun i hi => ?_⟩
  · rw [c1 9 (by omega)]; exact h1
  · rw [m0 24 (by omega)]; exact h2
  · rw [c1 10 (by omega)]; exact h3
  · rw [c1 12 (by omega), m0 31 (by omega)]; exact h4
  · rw [c1 13 (by omega)]; exact h5
  · rw [m0 35 (by omega)]; exact h6
  · rw [m0 33 (by omega)]; exact h7
  · rw [m0 34 (by omega)]; exact h8
  · rw [m0 11 (by omega)]; exact h9
  · obtain ⟨q1, h, q2, q3, q4, q5⟩ := hd i hi
    refine ⟨?_, h, q2, ?_, ?_, fun j hj => ?_⟩
    · rw [(c4 i hi).2, (m3 i hi).1]; exact q1
    · rw [(c4 i hi).1]; exact q3
    · rw [(m3 i hi).2]; exact q4
    · rw [c5 i j hi (by omega), m4 _ (by omega)]; exact q5 j hj
theorem R1.loc {C M : St} {k j : Nat} (h : R1 C M k) (hj : j < 8) {v : Int32} (hv : S16 v) : R1 (up2 C (35 + k) j v) (up2 M 17 (8 * k + j) v) k := by
  have hk := h.k
  refine h.congrS ((h.1.leftF j (by omega) (by omega) v).rightF _ (by decide) v) h.2.1 (fun z _ => up2_cell _ _ _ _ _ _ (Or.inl (by omega))) (fun i hi => ?_) (fun i hi => ⟨up2_cell _ _ _ _ _ _ (Or.inl (by omega)), up2_cell _ _ _ _ _ _ (Or.inl (by omega))⟩) (fun i z hi _ => up2_cell _ _ _ _ _ _ (Or.inl (by omega))) (fun _ _ => rfl) (fun _ _ => ⟨rfl, rfl⟩) (fun _ _ => rfl)
  obtain ⟨q1, q2, q3⟩ := h.2.2.2.2.1 i hi
  refine ⟨?_, ?_, fun z hz => ?_⟩
  · rw [up2_cell _ _ _ _ _ _ (Or.inl (by omega))]; exact q1
  · rw [up2_cell _ _ _ _ _ _ (Or.inl (by omega))]; exact q2
  · rw [up2_rd, up2_rd, if_pos rfl]
    by_cases w : i = k
    · subst w
      rw [if_pos rfl]
      by_cases w2 : z = j
      · rw [if_pos w2, if_pos (by omega)]; exact ⟨rfl, hv⟩
      · rw [if_neg w2, if_neg (by omega)]; exact q3 z hz
    · rw [if_neg (by omega), if_neg (by omega)]; exact q3 z hz
theorem R2.loc {C M : St} {k h j : Nat} (r : R2 C M k h) (hj : j < 8) {v : Int32} (hv : S16 v) : R2 (up2 C (35 + k) j v) (up2 M 17 (8 * k + j) v) k h := by
  have hk := r.1.k
  refine ⟨r.1.loc hj hv, r.2.1, ?_, r.2.2.2.1, fun z hz => ?_⟩
  · rw [up2_cell _ _ _ _ _ _ (Or.inl (by omega))]; exact r.2.2.1
  · rw [up2_cell _ _ _ _ _ _ (Or.inl (by omega))]; exact r.2.2.2.2 z hz
theorem op_4 {C M : St} {k h p : Nat} (e : EX C M k h p 4 2) (ht : 1 ≤ h) : OUT (pX6_move C 4) (mgo M (some 0)) := by
  obtain ⟨n, rfl⟩ : ∃ n, h = n + 1 := ⟨h - 1, by omega⟩
  have hl := e.pl
  have hk := e.k
  have h16 := e.h16
  obtain ⟨b, hb, eb⟩ := e.byte (p + 1)
  have hb8 : b % 8 < 8 := Nat.mod_lt _ (by decide)
  have q := e.st (n := n) (by omega)
  refine OUT.go (C' := up2 (up2 C (27 + k) 2 (nI n)) (35 + k) (b % 8) (M 18 (16 * k + n))) (M' := up2 (up2 (up2 M 17 (8 * k + b % 8) (M 18 (16 * k + n))) 19 k (nI n)) 15 k (nI (p + 2))) (k := k) (h := n) ?_ ?_ ?_
  · rw [show pX6_move C 4 = (ic (C 1 10) 8 fun k2 => bn (pX6_unsigned C 1) fun r8 => ic (C 1 10) 8 fun k3 => bn2 (pX2_pop C k3) fun r9 M4 => gd (inb (r8 - r8 / 8 * 8) 8) <| lt (up2 M4 (35 + k2) (ix (r8 - r8 / 8 * 8)) r9) fun M5 => some (65536, M5)) from rfl, ic_of _ e.f hk (by omega), cuns (x := 1) (j := 1) e.at' rfl (by omega), bn_s, ic_of _ e.f hk (by omega), cpop e.hh (by omega), bn2_s, e.code, eb, show (8 : Int32) = nI 8 from rfl, nI_remN (by omega) (by decide) (by decide), gd_t (inb_nI hb8 (by decide)), ix_nI (by omega), q.1]
    rfl
  · rw [mgo_0 e, show pX9_act M (nI 4) = (bn (bn (pX9_top M) fun r1 => bn (pX9_byteAt M 1) fun r2 => bn (pX9_at M 0) fun r5 => gd (inb ((8 * r1) + (r2 - r2 / 8 * 8)) 64) <| lt (up2 M 17 (ix ((8 * r1) + (r2 - r2 / 8 * 8))) r5) fun M3 => bn (pX9_drop M3 1) fun M4 => bn (some 2) fun r6 => bn (pX9_on M4 r6) fun M5 => some M5) fun M1 => some M1) from rfl, bn_eta, mtop e.m, bn_s, mbyte (x := 1) (j := 1) e.m e.k e.mp rfl (by omega), bn_s, mat (x := 0) (j := 0) (n := n) e.m e.k e.mh h16 rfl (by omega), bn_s, eb, show (8 : Int32) = nI 8 from rfl, nI_remN (by omega) (by decide) (by decide), nI_mulN, nI_add, gd_t (inb_nI (by omega) (by decide)), ix_nI (by omega), lt_s', mdrop (M := up2 M 17 _ _) (k := k) (h := n + 1) (x := 1) (n := 1) e.m e.k e.mh rfl (by omega), bn_s, bn_s, bn_eta, mon (M := up2 (up2 M 17 _ _) 19 k _) (k := k) e.m e.k, show (up2 (up2 M 17 (8 * k + b % 8) (M 18 (16 * k + n))) 19 k (nI (n + 1 - 1))) 15 k = nI p from e.mp, show (2 : Int32) = nI 2 from rfl, nI_add, Nat.add_sub_cancel]
  · have r := ((e.1.drop (n := n) (by omega)).loc hb8 q.2).mp (nI (p + 2))
    rw [up2_comm M _ _ (Or.inl (by decide))] at r
    refine ⟨r, ?_⟩
    rw [up2_cell _ _ _ _ _ _ (Or.inl (by omega)), up2_cell _ _ _ _ _ _ (Or.inr (by decide)), up2_at, e.cp]
theorem op_5 {C M : St} {k h p : Nat} (e : EX C M k h p 5 3) : OUT (pX6_move C 5) (mgo M (some 0)) := by
  have hl := e.pl
  have hk := e.k
  have h16 := e.h16
  obtain ⟨b, hb, eb⟩ := e.byte (p + 1)
  have hb8 : b % 8 < 8 := Nat.mod_lt _ (by decide)
  have loc := (e.1.1.2.2.2.2.1 k (Nat.le_refl _)).2.2 (b % 8) hb8
  refine OUT.go (C' := up2 C (35 + k) (b % 8) (M 17 (8 * k + b % 8) + (M 1 (p + 2)).toInt8.toInt32).toInt16.toInt32) (M' := up2 (up2 M 17 (8 * k + b % 8) (M 17 (8 * k + b % 8) + (M 1 (p + 2)).toInt8.toInt32).toInt16.toInt32) 15 k (nI (p + 3))) (k := k) (h := h) ?_ ?_ ?_
  · rw [show pX6_move C 5 = (ic (C 1 10) 8 fun k4 => bn (pX6_unsigned C 1) fun r10 => bn (pX6_signed C 2) fun r11 => bn (pX2_addToLocal C k4 (r10 - r10 / 8 * 8) r11) fun M6 => some (65536, M6)) from rfl, ic_of _ e.f hk (by omega), cuns (x := 1) (j := 1) e.at' rfl (by omega), bn_s, csig (x := 2) (j := 2) e.at' rfl (by omega), bn_s, e.code, eb, show (8 : Int32) = nI 8 from rfl, nI_remN (by omega) (by decide) (by decide)]
    unfold pX2_addToLocal
    rw [gd_t (inb_nI hb8 (by decide)), gd_t (inb_nI hb8 (by decide)), ix_nI (by omega), loc.1]
    rfl
  · rw [mgo_0 e, show pX9_act M (nI 5) = (bn (bn (pX9_top M) fun r1 => bn (pX9_byteAt M 1) fun r2 => gd (inb ((8 * r1) + (r2 - r2 / 8 * 8)) 64) <| bn (pX9_signed M 2) fun r3 => gd (inb ((8 * r1) + (r2 - r2 / 8 * 8)) 64) <| lt (up2 M 17 (ix ((8 * r1) + (r2 - r2 / 8 * 8))) (((M 17 (ix ((8 * r1) + (r2 - r2 / 8 * 8)))) + r3).toInt16.toInt32)) fun M1 => bn (some 3) fun r4 => bn (pX9_on M1 r4) fun M2 => some M2) fun M1 => some M1) from rfl, bn_eta, mtop e.m, bn_s, mbyte (x := 1) (j := 1) e.m e.k e.mp rfl (by omega), bn_s, eb, show (8 : Int32) = nI 8 from rfl, nI_remN (by omega) (by decide) (by decide), nI_mulN, nI_add, gd_t (inb_nI (by omega) (by decide)), msig (x := 2) (j := 2) e.m e.k e.mp rfl (by omega), bn_s, gd_t (inb_nI (by omega) (by decide)), ix_nI (by omega), lt_s', bn_s, bn_eta, mon (M := up2 M 17 _ _) (k := k) e.m e.k, show (up2 M 17 (8 * k + b % 8) (M 17 (8 * k + b % 8) + (M 1 (p + 2)).toInt8.toInt32).toInt16.toInt32) 15 k = nI p from e.mp, show (3 : Int32) = nI 3 from rfl, nI_add]
  · refine ⟨(e.1.loc hb8 (S16_of _)).mp _, ?_⟩
    rw [up2_cell _ _ _ _ _ _ (Or.inl (by omega)), up2_at, e.cp]
