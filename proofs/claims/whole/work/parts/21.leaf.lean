/-! PART II, the smallest steps, in closed form. k: the last frame's number; h: how many values stand on its stack; p: its place -/
-- the class
theorem cpop {C : St} {k h : Nat} (hh : C (27 + k) 2 = nI (h + 1)) (h16 : h < 16) : pX2_pop C k = some (C (43 + k) h, up2 C (27 + k) 2 (nI h)) := by
  unfold pX2_pop
  rw [hh, nI_m1]
  simp only [lt]
  rw [up2_at, gd_t (inb_nI h16 (by omega)), ix_nI (by omega), up2_cell _ _ _ _ _ _ (Or.inl (by omega))]
theorem cpush {C : St} {k h : Nat} (hh : C (27 + k) 2 = nI h) (h16 : h < 16) (x : Int32) : pX2_push C k x = some (up2 (up2 C (43 + k) h x.toInt16.toInt32) (27 + k) 2 (nI (h + 1))) := by
  unfold pX2_push
  rw [hh, gd_t (inb_nI h16 (by omega)), ix_nI (by omega)]
  simp only [lt]
  rw [up2_cell _ _ _ _ _ _ (Or.inl (by omega)), hh, nI_1]
theorem ctop {C : St} {k h : Nat} (hh : C (27 + k) 2 = nI (h + 1)) (h16 : h < 16) : pX2_top C k = some (C (43 + k) h) := by
  unfold pX2_top
  rw [hh, nI_m1, gd_t (inb_nI h16 (by omega)), ix_nI (by omega)]
theorem chasRoom {C : St} {k h : Nat} (hh : C (27 + k) 2 = nI h) (h16 : h ≤ 16) : pX2_hasRoom C k 1 = some (if h = 16 then 0 else 1) := by
  unfold pX2_hasRoom
  rw [hh, show (1 : Int32) = nI 1 from rfl, nI_add, show (16 : Int32) = nI 16 from rfl]
  by_cases e : h = 16
  · rw [if_pos ((nI_ltI (by omega) (by omega)).mpr (by omega)), if_pos e]
  · rw [if_neg (fun q => by have := (nI_ltI (by omega) (by omega)).mp q; omega), if_neg e]
theorem cput {C : St} {k h : Nat} (hf : C 1 10 = nI k) (hk : k < 8) (hh : C (27 + k) 2 = nI h) (h16 : h < 16) (x : Int32) : pX6_put C x = some (65536, up2 (up2 C (43 + k) h x.toInt16.toInt32) (27 + k) 2 (nI (h + 1))) := by
  unfold pX6_put
  rw [ic_of _ hf hk (by omega), cpush hh h16, bn_s]
theorem cuns {C : St} {p j : Nat} {x : Int32} (ha : C 1 11 = nI p) (hx : x = nI j) (h : p + j < 512) : pX6_unsigned C x = some (C 4 (p + j)) := by
  unfold pX6_unsigned
  rw [ha, hx, nI_add, gd_t (inb_nI h (by omega)), ix_nI (by omega)]
theorem csig {C : St} {p j : Nat} {x : Int32} (ha : C 1 11 = nI p) (hx : x = nI j) (h : p + j < 512) : pX6_signed C x = some ((C 4 (p + j)).toInt8.toInt32) := by
  unfold pX6_signed
  rw [ha, hx, nI_add, gd_t (inb_nI h (by omega)), ix_nI (by omega)]
-- the reference
theorem mtop {M : St} {k : Nat} (hf : M 0 24 = nI (k + 1)) : pX9_top M = some (nI k) := by
  unfold pX9_top; rw [hf, nI_m1]
theorem mdepth {M : St} {k h : Nat} (hf : M 0 24 = nI (k + 1)) (hk : k < 8) (hh : M 19 k = nI h) : pX9_depth M = some (nI h) := by
  unfold pX9_depth
  rw [mtop hf, bn_s, gd_t (inb_nI hk (by omega)), ix_nI (by omega), hh]
theorem mat {M : St} {k h j n : Nat} {x : Int32} (hf : M 0 24 = nI (k + 1)) (hk : k < 8) (hh : M 19 k = nI h) (h16 : h ≤ 16) (hx : x = nI j) (hj : h = n + 1 + j) : pX9_at M x = some (M 18 (16 * k + n)) := by
  unfold pX9_at
  rw [mtop hf, bn_s, mdepth hf hk hh, bn_s, hx, show (16 : Int32) = nI 16 from rfl, nI_mulN, nI_add, show (1 : Int32) = nI 1 from rfl, nI_subN (by omega), nI_subN (by omega), gd_t (inb_nI (by omega) (by omega)), ix_nI (by omega)]
  congr 2
  omega
theorem mput {M : St} {k h : Nat} (hf : M 0 24 = nI (k + 1)) (hk : k < 8) (hh : M 19 k = nI h) (h16 : h < 16) (x : Int32) : pX9_put M x = some (up2 (up2 M 18 (16 * k + h) x.toInt16.toInt32) 19 k (nI (h + 1))) := by
  unfold pX9_put
  rw [mtop hf, bn_s, mdepth hf hk hh, bn_s, show (16 : Int32) = nI 16 from rfl, nI_mulN, nI_add, gd_t (inb_nI (by omega) (by omega)), ix_nI (by omega)]
  simp only [lt]
  rw [mtop (M := up2 M 18 _ _) (k := k) hf, bn_s, gd_t (inb_nI hk (by omega)), gd_t (inb_nI hk (by omega)), ix_nI (by omega), up2_row _ _ _ _ _ (by omega), hh, nI_1]
theorem mdrop {M : St} {k h n : Nat} {x : Int32} (hf : M 0 24 = nI (k + 1)) (hk : k < 8) (hh : M 19 k = nI h) (hx : x = nI n) (hn : n ≤ h) : pX9_drop M x = some (up2 M 19 k (nI (h - n))) := by
  unfold pX9_drop
  rw [mtop hf, bn_s, gd_t (inb_nI hk (by omega)), gd_t (inb_nI hk (by omega)), ix_nI (by omega), hh, hx, nI_subN hn]
  rfl
theorem mhere {M : St} {k : Nat} (hf : M 0 24 = nI (k + 1)) (hk : k < 8) : pX9_here M = some (M 15 k) := by
  unfold pX9_here
  rw [mtop hf, bn_s, gd_t (inb_nI hk (by omega)), ix_nI (by omega)]
theorem mbyte {M : St} {k p j : Nat} {x : Int32} (hf : M 0 24 = nI (k + 1)) (hk : k < 8) (hp : M 15 k = nI p) (hx : x = nI j) (h : p + j < 512) : pX9_byteAt M x = some (M 1 (p + j)) := by
  unfold pX9_byteAt
  rw [mhere hf hk, bn_s, hp, hx, nI_add, gd_t (inb_nI h (by omega)), ix_nI (by omega)]
theorem msig {M : St} {k p j : Nat} {x : Int32} (hf : M 0 24 = nI (k + 1)) (hk : k < 8) (hp : M 15 k = nI p) (hx : x = nI j) (h : p + j < 512) : pX9_signed M x = some ((M 1 (p + j)).toInt8.toInt32) := by
  unfold pX9_signed
  rw [mbyte hf hk hp hx h, bn_s]
theorem mon {M : St} {k : Nat} (hf : M 0 24 = nI (k + 1)) (hk : k < 8) (x : Int32) : pX9_on M x = some (up2 M 15 k (M 15 k + x)) := by
  unfold pX9_on
  rw [mtop hf, bn_s, mhere hf hk, bn_s, gd_t (inb_nI hk (by omega)), ix_nI (by omega)]
  rfl
