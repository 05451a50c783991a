/-! PART II, the other methods -/
theorem thrown0_ok {C M : St} (h : RE C M) : ∃ r, pX8_thrown0 C = some r ∧ pX9_thrown0 M = some r :=
  ⟨M 0 33, by unfold pX8_thrown0; rw [h.s (a := 1) (j := 5) (b := 0) (i := 33) (by decide +kernel)], rfl⟩
theorem value_ok {C M : St} (h : RE C M) : ∃ r, pX8_value C = some r ∧ pX9_value M = some r :=
  ⟨M 0 34, by unfold pX8_value; rw [h.s (a := 1) (j := 6) (b := 0) (i := 34) (by decide +kernel)], rfl⟩
theorem used_ok {C M : St} (h : RE C M) : ∃ r, pX8_used C = some r ∧ pX9_used M = some r :=
  ⟨M 0 32, by unfold pX8_used; rw [h.s (a := 1) (j := 7) (b := 0) (i := 32) (by decide +kernel)], rfl⟩
theorem objects_ok {C M : St} (h : RE C M) : ∃ r, pX8_objects C = some r ∧ pX9_objects M = some r := by
  unfold pX8_objects pX9_objects
  rw [h.s (a := 3) (j := 0) (b := 0) (i := 11) (by decide +kernel), h.s (a := 2) (j := 4) (b := 0) (i := 4) (by decide +kernel)]
  by_cases p : M 0 11 = 0
  · rw [if_pos p]; exact ⟨_, rfl, rfl⟩
  · rw [if_neg p]; exact ⟨_, rfl, rfl⟩
theorem reply_ok {C M : St} (h : RE C M) (hi : INV M) (x : Int32) : ∃ r, pX8_reply C x = some r ∧ pX9_reply M x = some r := by
  obtain ⟨n, hn, en⟩ := hi.2.2.2.2.1
  have c1 : C 24 1 = nI n := (h.s (a := 24) (j := 1) (b := 0) (i := 23) (by decide +kernel)).trans en
  have c25 : C 25 = M 13 := h.r (by decide +kernel)
  unfold pX8_reply pX9_reply
  rw [en]
  by_cases a : x < 0
  · rw [(chas c1 x).1 (Or.inl a), bn_s, if_pos rfl, if_pos a]; exact ⟨_, rfl, rfl⟩
  · by_cases b : nI n ≤ x
    · rw [(chas c1 x).1 (Or.inr b), bn_s, if_pos rfl, if_neg a, if_pos b]; exact ⟨_, rfl, rfl⟩
    · obtain ⟨z, hz, rfl⟩ := nI_of a
      have zn : z < n := by
        rcases Nat.lt_or_ge z n with q | q
        · exact q
        · exact absurd ((nI_leI (by omega) hz).mpr q) b
      rw [(chas c1 (nI z)).2 z zn (by omega) rfl, bn_s, if_neg (by decide), if_neg a, if_neg b, gd_t (inb_nI (by omega) (by decide)), gd_t (inb_nI (by omega) (by decide)), ← c25]
      exact ⟨_, rfl, rfl⟩
theorem tear_ok {C M : St} (h : RE C M) (hi : INV M) (x : Int32) : ∃ r C' M', pX8_tear C x = some (r, C') ∧ pX9_tear M x = some (r, M') ∧ RE C' M' ∧ INV M' := by
  unfold pX8_tear pX5_setTear pX9_tear
  by_cases a : 0 ≤ x
  · rw [if_pos a, if_pos a]
    exact ⟨1, _, _, rfl, rfl, h.tear x, hi.tear x⟩
  · rw [if_neg a, if_neg a]
    exact ⟨1, _, _, rfl, rfl, h.tear (-1), hi.tear (-1)⟩
theorem reset_ok {C M : St} (h : RE C M) (hi : INV M) : ∃ r C' M', pX8_reset C = some (r, C') ∧ pX9_reset M = some (r, M') ∧ RE C' M' ∧ INV M' := by
  unfold pX8_reset pX9_reset
  rw [h.s (a := 3) (j := 0) (b := 0) (i := 11) (by decide +kernel)]
  by_cases p : M 0 11 = 0
  · rw [if_pos p, if_pos p, lt_s', lt_s', show (up2 M 0 11 1) 0 13 = M 0 13 from rfl]
    have h1 : RE (up2 C 3 0 1) (up2 M 0 11 1) := h.both (by decide +kernel) 1
    have i1 : INV (up2 M 0 11 1) := ⟨hi.1, hi.2.1, hi.2.2.1, hi.2.2.2.1, hi.2.2.2.2.1, Or.inr rfl⟩
    have c5 : (up2 C 3 0 1) 2 5 = M 0 13 := h.s (by decide +kernel)
    by_cases o : M 0 13 = 0
    · rw [if_pos o, show pX7_undo (up2 C 3 0 1) = some (0, up2 C 3 0 1) from by unfold pX7_undo; rw [c5, if_pos o], bn2_s, if_pos rfl]
      exact ⟨0, _, _, rfl, rfl, h1, i1⟩
    · obtain ⟨C', M', q1, q2, q3, q4, -⟩ := undo_ok h1 i1 (hi.op.resolve_left o)
      rw [if_neg o, q1, q2, bn2_s, bn_s, if_neg (by decide)]
      exact ⟨1, _, _, rfl, rfl, q3, q4⟩
  · rw [if_neg p, if_neg p]
    exact ⟨0, C, M, rfl, rfl, h, hi⟩
theorem INV.obj {M : St} (hi : INV M) : ∃ n c, n ≤ 40 ∧ c ≤ 240 ∧ M 0 4 = nI n ∧ Iobj n c (M 6) (M 7) (M 8) := by
  obtain ⟨n, c, -, h2, h3, h4, -, h6, -⟩ := hi.2.2.1
  exact ⟨n, c, h2, h3, h4, h6⟩
theorem told_ok {C M : St} (h : RE C M) (hi : INV M) (x y : Int32) : ∃ r, pX8_told C x y = some r ∧ pX9_told M x y = some r := by
  have c51 : C 51 = M 5 := h.r (by decide +kernel)
  have c52 : C 52 = M 6 := h.r (by decide +kernel)
  have c53 : C 53 = M 7 := h.r (by decide +kernel)
  have c4 : C 2 4 = M 0 4 := h.s (by decide +kernel)
  obtain ⟨n, c, n40, -, en, -⟩ := hi.obj
  unfold pX8_told pX9_told
  rw [h.s (a := 3) (j := 0) (b := 0) (i := 11) (by decide +kernel)]
  by_cases p : M 0 11 = 0
  · rw [if_pos p, if_pos p]; exact ⟨_, rfl, rfl⟩
  rw [if_neg p, if_neg p, chas_eq c4]
  rcases isObj en n40 x with q | ⟨z, z1, zn, rfl, q⟩
  · rw [q, bn_s, bn_s, if_pos rfl, if_pos rfl]; exact ⟨_, rfl, rfl⟩
  rw [q, bn_s, bn_s, if_neg (show ¬ (1 : Int32) = 0 by decide), if_neg (show ¬ (1 : Int32) = 0 by decide)]
  have gz : inb (nI z) 41 = true := inb_nI (by omega) (by decide)
  unfold pX9_isIn
  by_cases y0 : y < 0
  · rw [if_pos y0, bn_s, if_pos rfl, if_pos (show y.toInt < 0 ∨ 2 < y.toInt from Or.inl (Int32.lt_iff_toInt_lt.mp y0))]; exact ⟨_, rfl, rfl⟩
  by_cases y2 : 2 < y
  · rw [if_neg y0, if_pos y2, bn_s, if_pos rfl, if_pos (show y.toInt < 0 ∨ 2 < y.toInt from Or.inr (Int32.lt_iff_toInt_lt.mp y2))]; exact ⟨_, rfl, rfl⟩
  have ny : ¬ (y.toInt < 0 ∨ 2 < y.toInt) := fun q => by
    rcases q with q | q
    · exact y0 (Int32.lt_iff_toInt_lt.mpr q)
    · exact y2 (Int32.lt_iff_toInt_lt.mpr q)
  rw [if_neg y0, if_neg y2, bn_s, if_neg (show ¬ (1 : Int32) = 0 by decide), if_neg ny, gd_t gz, gd_t gz, gd_t gz, gd_t gz, gd_t gz, gd_t gz, c51, c52, c53]
  by_cases a : y = 0
  · rw [if_pos a, if_pos a]; exact ⟨_, rfl, rfl⟩
  by_cases b : y = 1
  · rw [if_neg a, if_neg a, if_pos b, if_pos b]; exact ⟨_, rfl, rfl⟩
  · have e : y = 2 := by
      apply Int32.toInt_inj.mp
      have a' : ¬ y.toInt = 0 := fun q => a (Int32.toInt_inj.mp q)
      have b' : ¬ y.toInt = 1 := fun q => b (Int32.toInt_inj.mp q)
      have : (2 : Int32).toInt = 2 := rfl
      omega
    rw [if_neg a, if_neg a, if_neg b, if_neg b, if_pos e]; exact ⟨_, rfl, rfl⟩
theorem cell_ok {C M : St} (h : RE C M) (hi : INV M) (x y : Int32) : ∃ r, pX8_cell C x y = some r ∧ pX9_cell M x y = some r := by
  have c53 : C 53 = M 7 := h.r (by decide +kernel)
  have c54 : C 54 = M 8 := h.r (by decide +kernel)
  have c55 : C 55 = M 9 := h.r (by decide +kernel)
  have c4 : C 2 4 = M 0 4 := h.s (by decide +kernel)
  obtain ⟨n, c, n40, c240, en, ho⟩ := hi.obj
  unfold pX8_cell pX9_cell
  rw [h.s (a := 3) (j := 0) (b := 0) (i := 11) (by decide +kernel)]
  by_cases p : M 0 11 = 0
  · rw [if_pos p, if_pos p]; exact ⟨_, rfl, rfl⟩
  rw [if_neg p, if_neg p, chas_eq c4]
  rcases isObj en n40 x with q | ⟨z, z1, zn, rfl, q⟩
  · rw [q, bn_s, bn_s, if_pos rfl, if_pos rfl]; exact ⟨_, rfl, rfl⟩
  have gz : inb (nI z) 41 = true := inb_nI (by omega) (by decide)
  obtain ⟨-, s, b, w1, w2, w3, w4, w5⟩ := ho z z1 zn
  rw [q, bn_s, bn_s, if_neg (show ¬ (1 : Int32) = 0 by decide), if_neg (show ¬ (1 : Int32) = 0 by decide), chasC c53 (by omega), gd_t gz, gd_t gz, ix_nI (show z < 2 ^ 31 by omega), w4, w5]
  rcases isIn_n (n := s) (by omega) y with ⟨i1, -⟩ | ⟨i, hi2, rfl, i1⟩
  · rw [i1, bn_s, bn_s, if_pos rfl, if_pos rfl]; exact ⟨_, rfl, rfl⟩
  · rw [i1, bn_s, bn_s, if_neg (show ¬ (1 : Int32) = 0 by decide), if_neg (show ¬ (1 : Int32) = 0 by decide)]
    unfold pX7_read
    rw [gd_t gz, ix_nI (show z < 2 ^ 31 by omega), c54, w5, nI_add, gd_t (inb_nI (by omega) (by decide)), gd_t (inb_nI (by omega) (by decide)), c55, bn_s]
    exact ⟨_, rfl, rfl⟩
theorem INV.type {M : St} (h : INV M) {n j : Nat} (hn : n ≤ 32) (v : Int32) : INV (up2 (up2 M 12 j v) 0 21 (nI n)) :=
  ⟨h.1, h.2.1, h.2.2.1, ⟨n, hn, rfl⟩, h.2.2.2.2.1, h.2.2.2.2.2⟩
theorem type_ok {C M : St} (h : RE C M) (hi : INV M) (x : Int32) : ∃ r C' M', pX8_type C x = some (r, C') ∧ pX9_type M x = some (r, M') ∧ RE C' M' ∧ INV M' := by
  obtain ⟨n, hn, en⟩ := hi.2.2.2.1
  have c1 : C 22 1 = nI n := (h.s (a := 22) (j := 1) (b := 0) (i := 21) (by decide +kernel)).trans en
  unfold pX8_type pX9_type
  rw [show pX8_isByte x = pX9_isIn x 0 255 from rfl, show (255 : Int32) = nI 256 - 1 by decide]
  rcases isIn_n (n := 256) (by decide) x with ⟨b1, -⟩ | ⟨b, hb, rfl, b1⟩
  · rw [b1, bn_s, bn_s, if_pos rfl, if_pos rfl]
    exact ⟨-1, C, M, rfl, rfl, h, hi⟩
  rw [b1, bn_s, bn_s, if_neg (show ¬ (1 : Int32) = 0 by decide), if_neg (show ¬ (1 : Int32) = 0 by decide)]
  unfold pX1_isFull pX1_add
  rw [c1, en]
  by_cases f : n = 32
  · rw [f, if_pos (show nI 32 = 32 from rfl), if_pos (show nI 32 = 32 from rfl), bn_s, if_neg (by decide)]
    exact ⟨-3, C, M, rfl, rfl, h, hi⟩
  · have nf : ¬ nI n = 32 := fun q => f (nI_eqI (b := 32) (by omega) (by decide) q)
    rw [if_neg nf, if_neg nf, bn_s, if_pos rfl, gd_t (inb_nI (by omega) (by decide)), gd_t (inb_nI (by omega) (by decide)), ix_nI (by omega), lt_s', lt_s', lt_s', lt_s', bn_s, up2_at, up2_at, show (up2 C (22 + 1) n (nI b)) 22 1 = nI n from c1, show (up2 M 12 n (nI b)) 0 21 = nI n from en, nI_1]
    exact ⟨nI (n + 1), _, _, rfl, rfl, (h.row (a := 23) (b := 12) (by decide +kernel) n _).both (by decide +kernel) _, hi.type (by omega) _⟩
theorem INV.meth {M : St} (h : INV M) {m : Nat} {o f z : Int32} (ho : ∃ n, n < 4 ∧ o = nI n) (hf : ∃ n, n < 512 ∧ f = nI n) (hz : z = 0 ∨ z = 1) : INV (up2 (up2 (up2 M 2 m o) 3 m f) 4 m z) := by
  refine ⟨h.1, ?_, h.2.2.1, h.2.2.2.1, h.2.2.2.2.1, h.2.2.2.2.2⟩
  show Imeth (upd (M 2) m o) (upd (M 3) m f) (upd (M 4) m z)
  intro k hk
  obtain ⟨q1, q2, q3⟩ := h.2.1 k hk
  by_cases e : k = m
  · subst e
    exact ⟨by simpa [upd] using ho, by simpa [upd] using hf, by simpa [upd] using hz⟩
  · exact ⟨by simpa [upd, e] using q1, by simpa [upd, e] using q2, by simpa [upd, e] using q3⟩
theorem method_ok {C M : St} (h : RE C M) (hi : INV M) (x o f z : Int32) (hz : z = 0 ∨ z = 1) : ∃ r C' M', pX8_method C x o f z = some (r, C') ∧ pX9_method M x o f z = some (r, M') ∧ RE C' M' ∧ INV M' := by
  unfold pX8_method pX9_method
  rw [show (3 : Int32) = nI 4 - 1 by decide, show (511 : Int32) = nI 512 - 1 by decide]
  rcases isM x with ⟨a1, a2⟩ | ⟨m, hm, rfl, a1, a2⟩
  · rw [a1, a2, bn_s, bn_s, if_pos rfl, if_pos rfl]
    exact ⟨-1, C, M, rfl, rfl, h, hi⟩
  rw [a1, a2, bn_s, bn_s, if_neg (show ¬ (1 : Int32) = 0 by decide), if_neg (show ¬ (1 : Int32) = 0 by decide)]
  rcases isIn_n (n := 4) (by decide) o with ⟨b1, b2⟩ | ⟨ow, how, rfl, b1⟩
  · rw [b1, bn_s, if_pos rfl]
    refine ⟨-1, C, M, ?_, rfl, h, hi⟩
    by_cases q : o < 0
    · rw [if_pos q]
    · rw [if_neg q, if_pos (show (4 : Int32) ≤ o from b2.resolve_left q)]
  rw [b1, bn_s, if_neg (show ¬ (1 : Int32) = 0 by decide), if_neg (nI_pos (by omega)), if_neg (show ¬ (4 : Int32) ≤ nI ow from nI_ge (b := 4) how (by decide))]
  rcases isIn_n (n := 512) (by decide) f with ⟨c1, c2⟩ | ⟨p, hp, rfl, c1⟩
  · rw [c1, bn_s, if_pos rfl]
    refine ⟨-1, C, M, ?_, rfl, h, hi⟩
    by_cases q : f < 0
    · rw [if_pos q]
    · have c3 : (512 : Int32) ≤ f := c2.resolve_left q
      rw [if_neg q, if_neg (fun w : f < 512 => by rw [Int32.lt_iff_toInt_lt] at w; rw [Int32.le_iff_toInt_le] at c3; omega)]
  have gm : inb (nI m) 16 = true := inb_nI hm (by decide)
  have gb : isb z = true := by rcases hz with rfl | rfl <;> rfl
  rw [c1, bn_s, if_neg (show ¬ (1 : Int32) = 0 by decide), if_neg (nI_pos (by omega)), if_pos (show nI p < (512 : Int32) from nI_lt (b := 512) hp (by decide)), ic_nI _ hm (by decide)]
  simp only [lt_s', gd_t gm, gd_t gb, ix_nI (show m < 2 ^ 31 by omega)]
  exact ⟨1, _, _, rfl, rfl, ((h.both (scl_m m hm).1 _).both (scl_m m hm).2.1 _).both (scl_m m hm).2.2 _, hi.meth ⟨ow, how, rfl⟩ ⟨p, hp, rfl⟩ hz⟩
-- code
theorem INV.code {M : St} (h : INV M) (j : Nat) {v : Int32} (hv : ∃ n, n < 256 ∧ v = nI n) : INV (up2 M 1 j v) := by
  refine ⟨?_, h.2⟩
  show Ibyte (upd (M 1) j v)
  intro i
  by_cases e : i = j
  · subst e; simpa [upd] using hv
  · simpa [upd, e] using h.1 i
theorem by_of (x : Int32) : ∃ n, n < 256 ∧ x &&& 255 = nI n := by
  obtain ⟨a, ha, ea⟩ := pk_andE x (m := 255) 8 (by decide)
  exact ⟨a, by omega, ea⟩
theorem sh_a : ∀ s ∈ List.range 8, ((nI (8 * s)).toInt64.toUInt64 &&& Int64.toUInt64 63) = UInt64.ofNat (8 * s) ∧ ((nI (8 * s)).toInt64 &&& 63) = Int64.ofNat (8 * s) := by decide +kernel
theorem sh_b : ∀ s ∈ List.range 8, ((UInt64.ofNat (8 * s)).toBitVec % 64#64).toNat = 8 * s ∧ ((Int64.ofNat (8 * s)).toBitVec.smod 64#64).toNat = 8 * s := by decide +kernel
theorem bits8 (x : BitVec 64) (k : Nat) (hk : k ≤ 56) : ((x >>> k).signExtend 32) &&& 255#32 = ((x.sshiftRight k) &&& 255#64).signExtend 32 := by
  apply BitVec.eq_of_getLsbD_eq
  intro i hi
  rw [BitVec.getLsbD_and, BitVec.getLsbD_signExtend, BitVec.getLsbD_signExtend, BitVec.getLsbD_and, BitVec.getLsbD_ushiftRight, BitVec.getLsbD_sshiftRight, BitVec.getLsbD_ofNat, BitVec.getLsbD_ofNat]
  have i64 : i < 64 := by omega
  by_cases h8 : i < 8
  · have k64 : k + i < 64 := by omega
    simp [hi, i64, k64, Nat.not_le.mpr i64]
  · have t : Nat.testBit 255 i = false := Nat.testBit_lt_two_pow (Nat.lt_of_lt_of_le (show 255 < 2 ^ 8 by decide) (Nat.pow_le_pow_right (by decide) (by omega)))
    simp [t, i64]
theorem byteEq (v : Int64) (s : Nat) (hs : s < 8) : (((v.toUInt64 >>> ((nI (8 * s)).toInt64.toUInt64 &&& Int64.toUInt64 63)).toInt64).toInt32) &&& 255 = ((v >>> ((nI (8 * s)).toInt64 &&& 63)) &&& 255).toInt32 := by
  have q := sh_b s (List.mem_range.mpr hs)
  rw [(sh_a s (List.mem_range.mpr hs)).1, (sh_a s (List.mem_range.mpr hs)).2]
  apply Int32.toBitVec_inj.mp
  show ((v.toBitVec >>> ((UInt64.ofNat (8 * s)).toBitVec % 64#64)).signExtend 32) &&& 255#32 = ((v.toBitVec.sshiftRight' ((Int64.ofNat (8 * s)).toBitVec.smod 64#64)) &&& 255#64).signExtend 32
  rw [BitVec.sshiftRight_eq', BitVec.ushiftRight_eq', q.1, q.2]
  exact bits8 _ _ (by omega)
theorem codesL (p n : Nat) (hp : p + n ≤ 512) (hn : n ≤ 8) (v : Int64) (k : Nat) : ∀ (N N' j : Nat) (C M : St), j + k = n → k < N → k < N' → RE C M → INV M → ∃ C' M', pX8_codes_b32 N C (nI p) v (nI n) (nI j) = some (1, C') ∧ pX9_codes_b30 N' M (nI p) v (nI n) (nI j) = some (1, M') ∧ RE C' M' ∧ INV M' := by
  induction k with
  | zero =>
    intro N N' j C M hj hN hN' h hi
    obtain ⟨m, rfl⟩ : ∃ n, N = n + 1 := ⟨N - 1, by omega⟩
    obtain ⟨m', rfl⟩ : ∃ n, N' = n + 1 := ⟨N' - 1, by omega⟩
    rw [pX8_codes_b32, pX9_codes_b30, if_pos (nI_le (by omega) (by omega)), if_pos (nI_le (by omega) (by omega))]
    exact ⟨C, M, rfl, rfl, h, hi⟩
  | succ k ih =>
    intro N N' j C M hj hN hN' h hi
    obtain ⟨m, rfl⟩ : ∃ n, N = n + 1 := ⟨N - 1, by omega⟩
    obtain ⟨m', rfl⟩ : ∃ n, N' = n + 1 := ⟨N' - 1, by omega⟩
    have e8 : (8 : Int32) * ((nI n - 1) - nI j) = nI (8 * (n - 1 - j)) := by
      rw [show (1 : Int32) = nI 1 from rfl, nI_subN (by omega), nI_subN (by omega), show (8 : Int32) = nI 8 from rfl, nI_mulN]
    rw [pX8_codes_b32, pX9_codes_b30, if_neg (nI_ge (by omega) (by omega)), if_neg (nI_ge (by omega) (by omega)), nI_add, gd_t (inb_nI (by omega) (by decide)), gd_t (inb_nI (by omega) (by decide)), ix_nI (by omega), lt_s', lt_s', nI_1, e8, byteEq v (n - 1 - j) (by omega)]
    refine ih m m' (j + 1) _ _ (by omega) (by omega) (by omega) (h.row (by decide +kernel) _ _) (hi.code _ ?_)
    rw [← byteEq v (n - 1 - j) (by omega)]
    exact by_of _
theorem code_v : ∀ b ∈ List.range 256, ((((nI b).toInt64).toUInt64 >>> ((8 * ((1 - 1) - 0) : Int32).toInt64.toUInt64 &&& Int64.toUInt64 63)).toInt64).toInt32 &&& 255 = nI b := by decide +kernel
theorem lt0 {x : Int32} {n : Nat} (hn : n + 1 < 2 ^ 31) (h : x < 0 ∨ nI (n + 1) ≤ x) : x < 0 ∨ ¬ x ≤ nI n := by
  rcases h with h | h
  · exact Or.inl h
  · right
    intro q
    rw [Int32.le_iff_toInt_le, nI_toInt (by omega)] at q h
    omega
theorem codes_ok {C M : St} (h : RE C M) (hi : INV M) (x : Int32) (v : Int64) (y : Int32) : ∃ r C' M', pX8_codes C x v y = some (r, C') ∧ pX9_codes M x v y = some (r, M') ∧ RE C' M' ∧ INV M' := by
  have bad : ∀ {a : Option (Int32 × St)} {b : Option (Int32 × St)}, a = some (-1, C) → b = some (-1, M) → ∃ r C' M', a = some (r, C') ∧ b = some (r, M') ∧ RE C' M' ∧ INV M' := fun e1 e2 => ⟨-1, C, M, e1, e2, h, hi⟩
  unfold pX8_codes pX9_codes
  by_cases y1 : y < 1
  · rw [if_pos y1, show pX9_isIn y 1 8 = some 0 from by unfold pX9_isIn; rw [if_pos y1], bn_s, if_pos rfl]
    exact bad rfl rfl
  by_cases y8 : 8 < y
  · rw [if_neg y1, if_pos y8, show pX9_isIn y 1 8 = some 0 from by unfold pX9_isIn; rw [if_neg y1, if_pos y8], bn_s, if_pos rfl]
    exact bad rfl rfl
  rw [if_neg y1, if_neg y8, show pX9_isIn y 1 8 = some 1 from by unfold pX9_isIn; rw [if_neg y1, if_neg y8], bn_s, if_neg (show ¬ (1 : Int32) = 0 by decide)]
  have y0 : ¬ y < 0 := fun q => y1 (by
    rw [Int32.lt_iff_toInt_lt] at q ⊢
    have e0 : (0 : Int32).toInt = 0 := rfl
    have e1 : (1 : Int32).toInt = 1 := rfl
    omega)
  obtain ⟨n, hn, rfl⟩ := nI_of y0
  have n8 : n ≤ 8 := by
    rcases Nat.lt_or_ge 8 n with q | q
    · exact absurd (show (8 : Int32) < nI n from nI_lt (a := 8) q hn) y8
    · exact q
  have e512 : (512 : Int32) - nI n = nI (512 - n) := by rw [show (512 : Int32) = nI 512 from rfl, nI_subN (by omega)]
  rw [e512]
  unfold pX9_isIn
  by_cases x0 : x < 0
  · rw [if_pos x0, if_pos x0, bn_s, if_pos rfl]
    exact bad rfl rfl
  obtain ⟨p, hp, rfl⟩ := nI_of x0
  by_cases px : p ≤ 512 - n
  · rw [if_neg x0, if_neg x0, if_pos (nI_le px (by omega)), if_neg (nI_nlt px (by omega)), bn_s, if_neg (show ¬ (1 : Int32) = 0 by decide), show (0 : Int32) = nI 0 from rfl]
    obtain ⟨C', M', q1, q2, q3, q4⟩ := codesL p n (by omega) n8 v n LF LF 0 C M (by omega) (by unfold LF; omega) (by unfold LF; omega) h hi
    exact ⟨1, C', M', q1, q2, q3, q4⟩
  · rw [if_neg x0, if_neg x0, if_neg (nI_ge (by omega) hp), if_pos (nI_lt (by omega) hp), bn_s, if_pos rfl]
    exact bad rfl rfl
theorem code_ok {C M : St} (h : RE C M) (hi : INV M) (x v : Int32) : ∃ r C' M', pX8_code C x v = some (r, C') ∧ pX9_code M x v = some (r, M') ∧ RE C' M' ∧ INV M' := by
  unfold pX8_code pX9_code
  rw [show pX8_isByte v = pX9_isIn v 0 255 from rfl, show (255 : Int32) = nI 256 - 1 by decide, show (511 : Int32) = nI 512 - 1 by decide]
  rcases isIn_n (n := 256) (by decide) v with ⟨b1, -⟩ | ⟨b, hb, rfl, b1⟩
  · rw [b1, bn_s, if_pos rfl]
    refine ⟨-1, C, M, rfl, ?_, h, hi⟩
    rcases isIn_n (n := 512) (by decide) x with ⟨a1, -⟩ | ⟨p, hp, rfl, a1⟩
    · rw [a1, bn_s, if_pos rfl]
    · rw [a1, bn_s, if_neg (show ¬ (1 : Int32) = 0 by decide), bn_s, if_pos rfl]
  rw [b1, bn_s, if_neg (show ¬ (1 : Int32) = 0 by decide), bn2_eta]
  unfold pX8_codes
  rw [if_neg (show ¬ (1 : Int32) < 1 by decide), if_neg (show ¬ (8 : Int32) < 1 by decide), show (512 - 1 : Int32) = nI 511 by decide]
  rcases isIn_n (n := 512) (by decide) x with ⟨a1, a2⟩ | ⟨p, hp, rfl, a1⟩
  · rw [a1, bn_s, if_pos rfl]
    refine ⟨-1, C, M, ?_, rfl, h, hi⟩
    rcases lt0 (n := 511) (by decide) a2 with q | q
    · rw [if_pos q]
    · by_cases w : x < 0
      · rw [if_pos w]
      · rw [if_neg w, if_neg q]
  rw [a1, bn_s, if_neg (show ¬ (1 : Int32) = 0 by decide), bn_s, if_neg (show ¬ (1 : Int32) = 0 by decide), if_neg (nI_pos (by omega)), if_pos (nI_le (by omega) (by decide)), gd_t (inb_nI hp (by decide)), ix_nI (by omega), lt_s', show LF = 4998 + 1 + 1 from rfl, pX8_codes_b32, if_neg (show ¬ (1 : Int32) ≤ 0 by decide), show nI p + 0 = nI p from Int32.add_zero _, gd_t (inb_nI hp (by decide)), ix_nI (by omega), lt_s', code_v b (List.mem_range.mpr hb), pX8_codes_b32, if_pos (show (1 : Int32) ≤ 0 + 1 by decide)]
  exact ⟨1, _, _, rfl, rfl, h.row (by decide +kernel) _ _, hi.code _ ⟨b, hb, rfl⟩⟩
