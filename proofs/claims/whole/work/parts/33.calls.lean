/-! PART II, calls and ends: frames begun and left; what is thrown -/
theorem zf_at (a n : Nat) : ∀ (M : St) (b c i : Nat), zf M a b n c i = if c = a ∧ b ≤ i ∧ i < b + n then 0 else M c i := by
  induction n with
  | zero => intro M b c i; rw [zf, if_neg (by omega)]
  | succ n ih =>
    intro M b c i
    rw [zf, ih, up2_rd]
    by_cases h1 : c = a
    · by_cases h2 : i = b
      · rw [if_neg (by omega), if_pos h1, if_pos h2, if_pos (by omega)]
      · rw [if_pos h1, if_neg h2]
        by_cases h3 : b + 1 ≤ i ∧ i < b + 1 + n
        · rw [if_pos ⟨h1, h3⟩, if_pos (by omega)]
        · rw [if_neg (fun q => h3 q.2), if_neg (by omega)]
    · rw [if_neg (fun q => h1 q.1), if_neg h1, if_neg (fun q => h1 q.1)]
theorem zf_up2 (a n : Nat) {b j : Nat} {v : Int32} (h : b ≠ a) : ∀ (M : St) (i : Nat), up2 (zf M a i n) b j v = zf (up2 M b j v) a i n := by
  induction n with
  | zero => intros; rfl
  | succ n ih => intro M i; rw [zf, zf, ih, up2_comm M v 0 (Or.inl h)]
def cpF (M : St) (r o : Nat) (f : Nat → Int32) (a : Nat) : St := fun b i => if b = r ∧ o ≤ i ∧ i < o + a then f (i - o) else M b i
theorem cpF_row (M : St) (r o : Nat) (f : Nat → Int32) (a b : Nat) (h : b ≠ r) : cpF M r o f a b = M b := by
  funext i
  unfold cpF
  rw [if_neg (fun q => h q.1)]
theorem cpF_up2 (M : St) (r o : Nat) (f : Nat → Int32) (a : Nat) {b j : Nat} {v : Int32} (h : b ≠ r) : up2 (cpF M r o f a) b j v = cpF (up2 M b j v) r o f a := by
  funext c i
  unfold cpF
  rw [up2_rd, up2_rd]
  by_cases h1 : c = b
  · subst h1
    rw [if_pos rfl, if_pos rfl]
    by_cases h2 : i = j
    · rw [if_pos h2, if_pos h2, if_neg (fun q => h q.1)]
    · rw [if_neg h2, if_neg h2]
  · rw [if_neg h1, if_neg h1]
/-- the agreement of both sides speaks of these cells alone -/
theorem RE.rows' {C M C' M' : St} (h : RE C M) (h1 : ∀ a, (a < 26 ∨ 51 ≤ a) → a ≠ 1 → C' a = C a) (h2 : ∀ j, (j = 5 ∨ j = 6 ∨ j = 7) → C' 1 j = C 1 j) (h3 : ∀ b, b < 14 → b ≠ 0 → M' b = M b) (h4 : ∀ i, i ≠ 24 → M' 0 i = M 0 i) : RE C' M' := by
  have s1 : ∀ p ∈ scl, (p.1.1 = 1 → p.1.2 = 5 ∨ p.1.2 = 6 ∨ p.1.2 = 7) ∧ (p.2.1 = 0 → p.2.2 ≠ 24) := by decide +kernel
  have s2 : ∀ r ∈ rws, r.1 ≠ 1 ∧ r.2 ≠ 0 := by decide +kernel
  refine ⟨fun p hp => ?_, fun r hr => ?_⟩
  · have e1 : C' p.1.1 p.1.2 = C p.1.1 p.1.2 := by
      by_cases q : p.1.1 = 1
      · rw [q]; exact h2 _ ((s1 p hp).1 q)
      · rw [h1 _ (Or.inl (scl_lo p hp).1) q]
    have e2 : M' p.2.1 p.2.2 = M p.2.1 p.2.2 := by
      by_cases q : p.2.1 = 0
      · rw [q]; exact h4 _ ((s1 p hp).2 q)
      · rw [h3 _ (scl_lo p hp).2 q]
    rw [e1, e2]
    exact h.1 p hp
  · rw [h1 _ (rws_lo r hr).1 (s2 r hr).1, h3 _ (rws_lo r hr).2 (s2 r hr).2]
    exact h.2 r hr
def BASE (C M : St) (n : Nat) : Prop := RE C M ∧ INV M ∧ (C 1 9 = nI n ∧ M 0 24 = nI n) ∧ (C 1 12 = M 0 31 ∧ C 1 13 = 1 ∧ M 0 35 = -1 ∧ M 0 33 = 0 ∧ M 0 34 = 0 ∧ M 0 11 = 1) ∧ (∀ i, i < n → FRs C M i) ∧ ∀ i, i < n → FRd C M i
def ecl (C : St) (n m : Nat) : St := up2 (up2 (up2 (up2 (zf (up2 (up2 C 1 10 (nI n)) 1 9 (nI (n + 1))) (35 + n) 0 8) (27 + n) 2 0) (27 + n) 3 (C (6 + m) 0)) (27 + n) 4 (C (6 + m) 1)) (27 + n) 5 MIN
def eml (M : St) (n m : Nat) : St := up2 (zf (up2 (up2 (up2 (up2 M 14 n (M 2 m)) 15 n (M 3 m)) 16 n (-1)) 19 n 0) 17 (8 * n) 8) 0 24 (nI (n + 1))
theorem INV.rows {M M' : St} (h : INV M) (h1 : ∀ b, b < 14 → b ≠ 0 → M' b = M b) (h0 : ∀ i, i ≠ 24 → M' 0 i = M 0 i) : INV M' := by
  unfold INV at h ⊢
  rw [h1 1 (by decide) (by decide), h1 2 (by decide) (by decide), h1 3 (by decide) (by decide), h1 4 (by decide) (by decide), h1 6 (by decide) (by decide), h1 7 (by decide) (by decide), h1 8 (by decide) (by decide), h1 10 (by decide) (by decide), h0 4 (by decide), h0 10 (by decide), h0 13 (by decide), h0 14 (by decide), h0 15 (by decide), h0 18 (by decide), h0 19 (by decide), h0 21 (by decide), h0 23 (by decide), h0 11 (by decide)]
  exact h
-- a frame begun
theorem cfillL (a0 n0 n : Nat) (hn0 : n0 < 2 ^ 31) : ∀ (N b : Nat) (C : St), n < N → b + n ≤ n0 → pJ7_fill_53178_b5 a0 n0 N C 0 (nI b) (nI (b + n)) = some (zf C a0 b n) := by
  induction n with
  | zero =>
    intro N b C hN hb
    obtain ⟨m, rfl⟩ : ∃ m, N = m + 1 := ⟨N - 1, by omega⟩
    rw [pJ7_fill_53178_b5, if_pos (show nI (b + 0) ≤ nI b from Int32.le_refl _)]
    rfl
  | succ n ih =>
    intro N b C hN hb
    obtain ⟨m, rfl⟩ : ∃ m, N = m + 1 := ⟨N - 1, by omega⟩
    rw [pJ7_fill_53178_b5, if_neg (fun q => by have := (nI_leI (by omega) (by omega)).mp q; omega), gd_t (inb_nI (by omega) hn0), ix_nI (by omega), lt_s', nI_1, show b + (n + 1) = (b + 1) + n by omega, ih m (b + 1) _ (by omega) (by omega)]
    rfl
theorem center {C : St} {n m : Nat} (hn : C 1 9 = nI n) (h8 : n < 8) (hm : m < 16) : pX6_enter C m = some (ecl C n m) := by
  have z0 : ∀ i, (zf (up2 (up2 C 1 10 (nI n)) 1 9 (nI (n + 1))) (35 + n) 0 8) (6 + m) i = C (6 + m) i := fun i => by
    rw [zf_row _ _ _ _ _ (by omega), up2_row _ _ _ _ _ (by omega), up2_row _ _ _ _ _ (by omega)]
  unfold pX6_enter pX2_begin pJ7_fill_53178
  rw [ic_of _ hn h8 (by omega), lt_s', lt_s', show (up2 C 1 10 (nI n)) 1 9 = nI n from hn, nI_1, ic_of _ (show (up2 (up2 C 1 10 (nI n)) 1 9 (nI (n + 1))) 1 10 = nI n from rfl) h8 (by omega), show pJ7_fill_53178_b5 (35 + n) 8 LF (up2 (up2 C 1 10 (nI n)) 1 9 (nI (n + 1))) 0 0 (nI 8) = some (zf (up2 (up2 C 1 10 (nI n)) 1 9 (nI (n + 1))) (35 + n) 0 8) from cfillL (35 + n) 8 8 (by decide) LF 0 _ (by unfold LF; omega) (by omega), bn_s]
  unfold ecl
  generalize zf (up2 (up2 C 1 10 (nI n)) 1 9 (nI (n + 1))) (35 + n) 0 8 = Z at z0 ⊢
  have r : ∀ (j : Nat) (v : Int32) (D : St) (i : Nat), (up2 D (27 + n) j v) (6 + m) i = D (6 + m) i := fun j v D i => up2_cell _ _ _ _ _ _ (Or.inl (by omega))
  simp only [lt_s', bn_s, r, z0]
theorem mfillL (n : Nat) : ∀ (N j k : Nat) (M : St), n < N → M 0 24 = nI k → j + n = 8 → k < 8 → pX9_enter_b52 N M (nI j) = some (up2 (zf M 17 (8 * k + j) n) 0 24 (nI (k + 1))) := by
  induction n with
  | zero =>
    intro N j k M hN hk hj h8
    obtain ⟨m, rfl⟩ : ∃ m, N = m + 1 := ⟨N - 1, by omega⟩
    rw [pX9_enter_b52, show (8 : Int32) = nI 8 from rfl, if_pos ((nI_leI (by omega) (by omega)).mpr (by omega)), lt_s', hk, nI_1]
    rfl
  | succ n ih =>
    intro N j k M hN hk hj h8
    obtain ⟨m, rfl⟩ : ∃ m, N = m + 1 := ⟨N - 1, by omega⟩
    rw [pX9_enter_b52, show (8 : Int32) = nI 8 from rfl, if_neg (fun q => by have := (nI_leI (by omega) (by omega)).mp q; omega), hk, nI_mulN, nI_add, gd_t (inb_nI (by omega) (by decide)), ix_nI (by omega), lt_s', nI_1, ih m (j + 1) k (up2 M 17 (8 * k + j) 0) (by omega) hk (by omega) h8]
    rfl
theorem menter {M : St} {n m : Nat} (hn : M 0 24 = nI n) (h8 : n < 8) (hm : m < 16) : pX9_enter M (nI m) = some (eml M n m) := by
  have g1 : inb (nI m) 16 = true := inb_nI hm (by decide)
  have g2 : inb (nI n) 8 = true := inb_nI h8 (by decide)
  have i1 : ix (nI m) = m := ix_nI (by omega)
  have i2 : ix (nI n) = n := ix_nI (by omega)
  unfold pX9_enter
  rw [gd_t g1, hn, gd_t g2, i2, i1, lt_s', gd_t g1, show (up2 M 14 n (M 2 m)) 0 24 = nI n from hn, gd_t g2, i2, lt_s', show (up2 (up2 M 14 n (M 2 m)) 15 n ((up2 M 14 n (M 2 m)) 3 m)) 0 24 = nI n from hn, gd_t g2, i2, lt_s', show (up2 (up2 (up2 M 14 n (M 2 m)) 15 n ((up2 M 14 n (M 2 m)) 3 m)) 16 n (-1)) 0 24 = nI n from hn, gd_t g2, i2, lt_s']
  exact mfillL 8 LF 0 n _ (by unfold LF; omega) hn (by omega) h8
theorem ecl_row {C : St} {n m a : Nat} (h1 : a ≠ 1) (h2 : a ≠ 27 + n) (h3 : a ≠ 35 + n) : ecl C n m a = C a := by
  unfold ecl
  rw [up2_row _ _ _ _ _ h2, up2_row _ _ _ _ _ h2, up2_row _ _ _ _ _ h2, up2_row _ _ _ _ _ h2, zf_row _ _ _ _ _ h3, up2_row _ _ _ _ _ h1, up2_row _ _ _ _ _ h1]
theorem ecl_1 {C : St} {n m : Nat} : ecl C n m 1 = up2 (up2 C 1 10 (nI n)) 1 9 (nI (n + 1)) 1 := by
  unfold ecl
  rw [up2_row _ _ _ _ _ (by omega), up2_row _ _ _ _ _ (by omega), up2_row _ _ _ _ _ (by omega), up2_row _ _ _ _ _ (by omega), zf_row _ _ _ _ _ (by omega)]
theorem ecl_loc {C : St} {n m j : Nat} (hj : j < 8) : ecl C n m (35 + n) j = 0 := by
  unfold ecl
  rw [up2_row _ _ _ _ _ (by omega), up2_row _ _ _ _ _ (by omega), up2_row _ _ _ _ _ (by omega), up2_row _ _ _ _ _ (by omega), zf_at, if_pos (by omega)]
theorem ecl_2 {C : St} {n m : Nat} : ecl C n m (27 + n) 2 = 0 := by
  unfold ecl
  rw [up2_cell _ _ _ _ _ _ (Or.inr (by decide)), up2_cell _ _ _ _ _ _ (Or.inr (by decide)), up2_cell _ _ _ _ _ _ (Or.inr (by decide)), up2_at]
theorem ecl_3 {C : St} {n m : Nat} : ecl C n m (27 + n) 3 = C (6 + m) 0 := by
  unfold ecl
  rw [up2_cell _ _ _ _ _ _ (Or.inr (by decide)), up2_cell _ _ _ _ _ _ (Or.inr (by decide)), up2_at]
theorem ecl_4 {C : St} {n m : Nat} : ecl C n m (27 + n) 4 = C (6 + m) 1 := by
  unfold ecl
  rw [up2_cell _ _ _ _ _ _ (Or.inr (by decide)), up2_at]
theorem ecl_5 {C : St} {n m : Nat} : ecl C n m (27 + n) 5 = MIN := by
  unfold ecl
  rw [up2_at]
theorem eml_row {M : St} {n m b : Nat} (h : b ≠ 0 ∧ b ≠ 14 ∧ b ≠ 15 ∧ b ≠ 16 ∧ b ≠ 17 ∧ b ≠ 19) : eml M n m b = M b := by
  unfold eml
  rw [up2_row _ _ _ _ _ h.1, zf_row _ _ _ _ _ h.2.2.2.2.1, up2_row _ _ _ _ _ h.2.2.2.2.2, up2_row _ _ _ _ _ h.2.2.2.1, up2_row _ _ _ _ _ h.2.2.1, up2_row _ _ _ _ _ h.2.1]
theorem eml_0 {M : St} {n m i : Nat} (h : i ≠ 24) : eml M n m 0 i = M 0 i := by
  unfold eml
  rw [up2_cell _ _ _ _ _ _ (Or.inr h), zf_row _ _ _ _ _ (by decide)]
  rfl
theorem eml_24 {M : St} {n m : Nat} : eml M n m 0 24 = nI (n + 1) := by unfold eml; exact up2_at _ _ _ _
theorem eml_14 {M : St} {n m i : Nat} : eml M n m 14 i = if i = n then M 2 m else M 14 i := by
  unfold eml
  rw [up2_row _ _ _ _ _ (by decide), zf_row _ _ _ _ _ (by decide), up2_row _ _ _ _ _ (by decide), up2_row _ _ _ _ _ (by decide), up2_row _ _ _ _ _ (by decide), up2_rd, if_pos rfl]
theorem eml_15 {M : St} {n m i : Nat} : eml M n m 15 i = if i = n then M 3 m else M 15 i := by
  unfold eml
  rw [up2_row _ _ _ _ _ (by decide), zf_row _ _ _ _ _ (by decide), up2_row _ _ _ _ _ (by decide), up2_row _ _ _ _ _ (by decide), up2_rd, if_pos rfl]
  rfl
theorem eml_16 {M : St} {n m i : Nat} : eml M n m 16 i = if i = n then -1 else M 16 i := by
  unfold eml
  rw [up2_row _ _ _ _ _ (by decide), zf_row _ _ _ _ _ (by decide), up2_row _ _ _ _ _ (by decide), up2_rd, if_pos rfl]
  rfl
theorem eml_19 {M : St} {n m i : Nat} : eml M n m 19 i = if i = n then 0 else M 19 i := by
  unfold eml
  rw [up2_row _ _ _ _ _ (by decide), zf_row _ _ _ _ _ (by decide), up2_rd, if_pos rfl]
  rfl
theorem eml_17 {M : St} {n m z : Nat} : eml M n m 17 z = if 8 * n ≤ z ∧ z < 8 * n + 8 then 0 else M 17 z := by
  unfold eml
  rw [up2_row _ _ _ _ _ (by decide), zf_at]
  by_cases h : 8 * n ≤ z ∧ z < 8 * n + 8
  · rw [if_pos ⟨rfl, h⟩, if_pos h]
  · rw [if_neg (fun q => h q.2), if_neg h]
    rfl
theorem scl_m0 : ∀ m ∈ List.range 16, ((6 + m, 0), (2, m)) ∈ scl ∧ ((6 + m, 1), (3, m)) ∈ scl ∧ ((6 + m, 2), (4, m)) ∈ scl := by decide +kernel
theorem scl_m (m : Nat) (h : m < 16) : ((6 + m, 0), (2, m)) ∈ scl ∧ ((6 + m, 1), (3, m)) ∈ scl ∧ ((6 + m, 2), (4, m)) ∈ scl := scl_m0 m (List.mem_range.mpr h)
theorem entr {C M : St} {n m : Nat} (hb : BASE C M n) (h8 : n < 8) (hm : m < 16) : R3 (ecl C n m) (eml M n m) n 0 := by
  obtain ⟨hre, hinv, ⟨hc, hf⟩, ⟨g1, g2, g3, g4, g5, g6⟩, hs, hd⟩ := hb
  have x1 : ∀ i, i ≠ 9 → i ≠ 10 → ecl C n m 1 i = C 1 i := fun i h1 h2 => by rw [ecl_1, up2_cell _ _ _ _ _ _ (Or.inr h1), up2_cell _ _ _ _ _ _ (Or.inr h2)]
  have hre' : RE (ecl C n m) (eml M n m) := hre.rows' (fun a ha h1 => ecl_row h1 (by omega) (by omega)) (fun j hj => x1 j (by omega) (by omega)) (fun b hb h0 => eml_row (by omega)) (fun i hi => eml_0 hi)
  have hinv' : INV (eml M n m) := hinv.rows (fun b hb h0 => eml_row (by omega)) (fun i hi => eml_0 hi)
  refine ⟨⟨⟨hre', hinv', ⟨h8, ?_, eml_24, ?_⟩, ⟨?_, ?_, ?_, ?_, ?_, ?_⟩, fun i hi => ?_, fun i hi => ?_⟩, Nat.zero_le _, ?_, ?_, fun j hj => absurd hj (Nat.not_lt_zero _)⟩, ?_⟩
  · rw [ecl_1, up2_at]
  · rw [ecl_1, up2_cell _ _ _ _ _ _ (Or.inr (by decide)), up2_at]
  · rw [x1 12 (by decide) (by decide), eml_0 (by decide)]; exact g1
  · rw [x1 13 (by decide) (by decide)]; exact g2
  · rw [eml_0 (by decide)]; exact g3
  · rw [eml_0 (by decide)]; exact g4
  · rw [eml_0 (by decide)]; exact g5
  · rw [eml_0 (by decide)]; exact g6
  · by_cases w : i = n
    · subst w
      refine ⟨?_, Or.inl ⟨ecl_5, ?_⟩, fun j hj => ?_⟩
      · rw [ecl_3, eml_14, if_pos rfl]; exact hre.s (scl_m m hm).1
      · rw [eml_16, if_pos rfl]
      · rw [ecl_loc hj, eml_17, if_pos (by omega)]; exact ⟨rfl, S16_0⟩
    · obtain ⟨q1, q2, q3⟩ := hs i (by omega)
      refine ⟨?_, ?_, fun j hj => ?_⟩
      · rw [ecl_row (by omega) (by omega) (by omega), eml_14, if_neg w]; exact q1
      · rw [ecl_row (by omega) (by omega) (by omega), eml_16, if_neg w, eml_row (b := 20) (by decide)]; exact q2
      · rw [ecl_row (by omega) (by omega) (by omega), eml_17, if_neg (by omega)]; exact q3 j hj
  · obtain ⟨q1, h, q2, q3, q4, q5⟩ := hd i hi
    refine ⟨?_, h, q2, ?_, ?_, fun j hj => ?_⟩
    · rw [ecl_row (by omega) (by omega) (by omega), eml_15, if_neg (by omega)]; exact q1
    · rw [ecl_row (by omega) (by omega) (by omega)]; exact q3
    · rw [eml_19, if_neg (by omega)]; exact q4
    · rw [ecl_row (by omega) (by omega) (by omega), eml_row (b := 18) (by decide)]; exact q5 j hj
  · rw [ecl_2]; rfl
  · rw [eml_19, if_pos rfl]; rfl
  · rw [ecl_4, eml_15, if_pos rfl]; exact hre.s (scl_m m hm).2.1
theorem R3.base {C M : St} {k h : Nat} (r : R3 C M k h) : BASE C M (k + 1) := by
  obtain ⟨⟨⟨hre, hinv, ⟨hk, h1, h2, h3⟩, hg, hs, hd⟩, hf⟩, hp⟩ := r
  refine ⟨hre, hinv, ⟨h1, h2⟩, hg, fun i hi => hs i (by omega), fun i hi => ?_⟩
  by_cases w : i = k
  · subst w; exact ⟨hp, h, hf⟩
  · exact hd i (by omega)
-- the arguments
theorem cpF_0 (M : St) (r o : Nat) (f : Nat → Int32) : cpF M r o f 0 = M := by
  funext b i
  unfold cpF
  rw [if_neg (by omega)]
theorem cpF_hi (M : St) (r : Nat) (f : Nat → Int32) (c : Nat) : cpF (up2 M r c (f c)) r 0 f c = cpF M r 0 f (c + 1) := by
  funext b i
  unfold cpF
  rw [up2_rd]
  by_cases h1 : b = r
  · by_cases h2 : i = c
    · subst h2
      rw [if_neg (by omega), if_pos h1, if_pos rfl, if_pos ⟨h1, by omega, by omega⟩, Nat.sub_zero]
    · by_cases h3 : i < c
      · rw [if_pos ⟨h1, by omega, by omega⟩, if_pos ⟨h1, by omega, by omega⟩]
      · rw [if_neg (by omega), if_pos h1, if_neg h2, if_neg (by omega)]
  · rw [if_neg (fun q => h1 q.1), if_neg h1, if_neg (fun q => h1 q.1)]
theorem cpF_lo (M : St) (r o : Nat) (f : Nat → Int32) (n : Nat) : cpF (up2 M r o (f 0)) r (o + 1) (fun i => f (i + 1)) n = cpF M r o f (n + 1) := by
  funext b i
  unfold cpF
  rw [up2_rd]
  by_cases h1 : b = r
  · by_cases h2 : i = o
    · subst h2
      rw [if_neg (by omega), if_pos h1, if_pos rfl, if_pos ⟨h1, by omega, by omega⟩, Nat.sub_self]
    · by_cases h3 : o + 1 ≤ i ∧ i < o + 1 + n
      · rw [if_pos ⟨h1, h3⟩, if_pos ⟨h1, by omega, by omega⟩]
        show f (i - (o + 1) + 1) = f (i - o)
        rw [show i - (o + 1) + 1 = i - o by omega]
      · rw [if_neg (fun q => h3 q.2), if_pos h1, if_neg h2, if_neg (by omega)]
  · rw [if_neg (fun q => h1 q.1), if_neg h1, if_neg (fun q => h1 q.1)]
theorem cargs (k b : Nat) (hk : k + 1 < 8) (c : Nat) : ∀ (N : Nat) (D : St), c < N → c ≤ 8 → b + c ≤ 16 → D 1 10 = nI (k + 1) → D (27 + k) 2 = nI (b + c) → pX6_call_b98 N D k (nI c - 1) = some (65536, cpF (up2 D (27 + k) 2 (nI b)) (35 + (k + 1)) 0 (fun i => D (43 + k) (b + i)) c) := by
  induction c with
  | zero =>
    intro N D hN h8 h16 hf hh
    obtain ⟨m, rfl⟩ : ∃ m, N = m + 1 := ⟨N - 1, by omega⟩
    rw [pX6_call_b98, if_pos (show nI 0 - 1 < 0 by decide), cpF_0, up2_same' (show D (27 + k) 2 = nI b from hh)]
  | succ c ih =>
    intro N D hN h8 h16 hf hh
    obtain ⟨m, rfl⟩ : ∃ m, N = m + 1 := ⟨N - 1, by omega⟩
    have e1 : (up2 (up2 D (27 + k) 2 (nI (b + c))) (35 + (k + 1)) c (D (43 + k) (b + c))) (43 + k) = D (43 + k) := by rw [up2_row _ _ _ _ _ (by omega), up2_row _ _ _ _ _ (by omega)]
    rw [nI_m1, pX6_call_b98, if_neg (nI_pos (by omega)), ic_of _ hf hk (by omega), cpop (k := k) (h := b + c) hh (by omega), bn2_s, gd_t (inb_nI (by omega) (by decide)), ix_nI (by omega), lt_s', m1eq, ih m (up2 (up2 D (27 + k) 2 (nI (b + c))) (35 + (k + 1)) c (D (43 + k) (b + c))) (by omega) (by omega) (by omega) (by rw [up2_cell _ _ _ _ _ _ (Or.inl (by omega)), up2_cell _ _ _ _ _ _ (Or.inl (by omega))]; exact hf) (by rw [up2_cell _ _ _ _ _ _ (Or.inl (by omega)), up2_at]), e1, up2_comm (a := 35 + (k + 1)) (b := 27 + k) _ _ _ (Or.inl (by omega)), up2_twice]
    exact congrArg (fun z => some ((65536 : Int32), z)) (cpF_hi (up2 D (27 + k) 2 (nI b)) (35 + (k + 1)) (fun i => D (43 + k) (b + i)) c)
theorem margs (k b a : Nat) (hk : k + 1 < 8) (ha : a ≤ 8) (hb : b + a ≤ 16) (n : Nat) : ∀ (N j : Nat) (M : St), n < N → j + n = a → M 0 24 = nI (k + 2) → M 19 k = nI b → pX9_callIt_b41 N M (nI a) (nI k) (nI j) = some (cpF M 17 (8 * (k + 1) + j) (fun i => M 18 (16 * k + b + (j + i))) n) := by
  induction n with
  | zero =>
    intro N j M hN hj hf hh
    obtain ⟨m, rfl⟩ : ∃ m, N = m + 1 := ⟨N - 1, by omega⟩
    rw [pX9_callIt_b41, if_pos ((nI_leI (by omega) (by omega)).mpr (by omega)), cpF_0]
  | succ n ih =>
    intro N j M hN hj hf hh
    obtain ⟨m, rfl⟩ : ∃ m, N = m + 1 := ⟨N - 1, by omega⟩
    have e : (fun i => (up2 M 17 (8 * (k + 1) + j) (M 18 (16 * k + b + j))) 18 (16 * k + b + (j + 1 + i))) = fun i => M 18 (16 * k + b + (j + (i + 1))) := funext fun i => by
      rw [up2_row _ _ _ _ _ (by decide), show j + 1 + i = j + (i + 1) by omega]
    rw [pX9_callIt_b41, if_neg (fun q => by have := (nI_leI (by omega) (by omega)).mp q; omega), mtop (k := k + 1) hf, bn_s, gd_t (inb_nI (by omega) (by decide)), ix_nI (show k < 2 ^ 31 by omega), hh, show (16 : Int32) = nI 16 from rfl, nI_mulN, nI_add, nI_add, gd_t (inb_nI (by omega) (by decide)), show (8 : Int32) = nI 8 from rfl, nI_mulN, nI_add, gd_t (inb_nI (by omega) (by decide)), ix_nI (show 16 * k + b + j < 2 ^ 31 by omega), ix_nI (show 8 * (k + 1) + j < 2 ^ 31 by omega), lt_s', nI_1, ih m (j + 1) (up2 M 17 (8 * (k + 1) + j) (M 18 (16 * k + b + j))) (by omega) (by omega) hf hh, e]
    exact congrArg some (cpF_lo M 17 (8 * (k + 1) + j) (fun i => M 18 (16 * k + b + (j + i))) n)
theorem R3.args {X Y : St} {n : Nat} (r : R3 X Y n 0) {f g : Nat → Int32} {a : Nat} (ha : a ≤ 8) (hfg : ∀ i, i < a → f i = g i ∧ S16 (g i)) : R3 (cpF X (35 + n) 0 f a) (cpF Y 17 (8 * n) g a) n 0 := by
  have hk := r.1.1.k
  have hre : RE (cpF X (35 + n) 0 f a) (cpF Y 17 (8 * n) g a) := r.1.1.1.rows' (fun b hb h1 => cpF_row _ _ _ _ _ _ (by omega)) (fun j hj => by rw [cpF_row _ _ _ _ _ _ (by omega)]) (fun b hb h0 => cpF_row _ _ _ _ _ _ (by omega)) (fun i hi => by rw [cpF_row _ _ _ _ _ _ (by omega)])
  have hinv : INV (cpF Y 17 (8 * n) g a) := r.1.1.2.1.rows (fun b hb h0 => cpF_row _ _ _ _ _ _ (by omega)) (fun i hi => by rw [cpF_row _ _ _ _ _ _ (by omega)])
  refine ⟨⟨r.1.1.congrS hre hinv (fun j _ => by rw [cpF_row _ _ _ _ _ _ (by omega)]) (fun i hi => ?_) (fun i hi => ⟨by rw [cpF_row _ _ _ _ _ _ (by omega)], by rw [cpF_row _ _ _ _ _ _ (by omega)]⟩) (fun i j hi _ => by rw [cpF_row _ _ _ _ _ _ (by omega)]) (fun _ _ => by rw [cpF_row _ _ _ _ _ _ (by omega)]) (fun _ _ => ⟨by rw [cpF_row _ _ _ _ _ _ (by omega)], by rw [cpF_row _ _ _ _ _ _ (by omega)]⟩) (fun _ _ => by rw [cpF_row _ _ _ _ _ _ (by omega)]), Nat.zero_le _, ?_, ?_, fun j hj => absurd hj (Nat.not_lt_zero _)⟩, ?_⟩
  · obtain ⟨q1, q2, q3⟩ := r.1.1.2.2.2.2.1 i hi
    refine ⟨?_, ?_, fun j hj => ?_⟩
    · rw [cpF_row _ _ _ _ _ _ (by omega), cpF_row _ _ _ _ _ _ (by omega)]; exact q1
    · rw [cpF_row _ _ _ _ _ (27 + i) (by omega), cpF_row _ _ _ _ _ 16 (by omega), cpF_row _ _ _ _ _ 20 (by omega)]; exact q2
    · unfold cpF
      by_cases w : i = n ∧ j < a
      · obtain ⟨w1, w2⟩ := w
        subst w1
        rw [if_pos ⟨rfl, by omega, by omega⟩, if_pos ⟨rfl, by omega, by omega⟩, Nat.sub_zero, Nat.add_sub_cancel_left]
        exact hfg j w2
      · rw [if_neg (by omega), if_neg (by omega)]
        exact q3 j hj
  · rw [cpF_row _ _ _ _ _ _ (by omega)]; exact r.1.2.2.1
  · rw [cpF_row _ _ _ _ _ _ (by omega)]; exact r.1.2.2.2.1
  · rw [cpF_row _ _ _ _ _ (27 + n) (by omega), cpF_row _ _ _ _ _ 15 (by omega)]; exact r.2
theorem ecl_up2 {C : St} {n m a j : Nat} {v : Int32} (h1 : a ≠ 1) (h2 : a ≠ 27 + n) (h3 : a ≠ 35 + n) (h4 : 6 + m ≠ a) : up2 (ecl C n m) a j v = ecl (up2 C a j v) n m := by
  have e0 : (up2 C a j v) (6 + m) = C (6 + m) := up2_row _ _ _ _ _ h4
  unfold ecl
  rw [e0, up2_comm (a := 27 + n) (b := a) _ _ _ (Or.inl (Ne.symm h2)), up2_comm (a := 27 + n) (b := a) _ _ _ (Or.inl (Ne.symm h2)), up2_comm (a := 27 + n) (b := a) _ _ _ (Or.inl (Ne.symm h2)), up2_comm (a := 27 + n) (b := a) _ _ _ (Or.inl (Ne.symm h2)), zf_up2 _ _ h3, up2_comm (a := 1) (b := a) _ _ _ (Or.inl (Ne.symm h1)), up2_comm (a := 1) (b := a) _ _ _ (Or.inl (Ne.symm h1))]
theorem callGo {C M : St} {k h p j m a : Nat} (e : EX C M k h p j 3) (hm : m < 16) (ha : a ≤ 8) (hah : a ≤ h) {x y : Nat} (hx : x < 256) (hy : y < 256) (ex : M 1 (p + 1) = nI x) (ey : M 1 (p + 2) = nI y) (em : m = x % 16) (ea : a = y % 9) (hact : pX9_act M (nI j) = bn (pX9_callIt M) fun M1 => some M1) : OUT (pX6_call_b70 C m (nI a)) (mgo M (if M 0 24 = 8 then some 6 else some 0)) := by
  have hk := e.k
  have hl := e.pl
  have h16 := e.h16
  have c9 : C 1 9 = nI (k + 1) := e.1.1.2.2.1.2.1
  have r16 : nI x - nI x / 16 * 16 = nI m := by rw [show (16 : Int32) = nI 16 from rfl, nI_remN (by omega) (by decide) (by decide), em]
  have r9 : nI y - nI y / 9 * 9 = nI a := by rw [show (9 : Int32) = nI 9 from rfl, nI_remN (by omega) (by decide) (by decide), ea]
  unfold pX6_call_b70
  rw [c9, e.m, show (8 : Int32) = nI 8 from rfl]
  by_cases full : k + 1 = 8
  · rw [full, if_pos rfl, if_pos rfl]
    exact OUT.thr (S16_nI (n := 6) (by decide)) rfl (mgo_f M (by decide)) e.1.1
  · have nf : ¬ nI (k + 1) = nI 8 := fun q => full (nI_eqI (by omega) (by omega) q)
    obtain ⟨b, rfl⟩ : ∃ b, h = b + a := ⟨h - a, by omega⟩
    have d1 : ecl C (k + 1) m 1 10 = nI (k + 1) := by rw [ecl_1, up2_cell _ _ _ _ _ _ (Or.inr (by decide)), up2_at]
    have d2 : ecl C (k + 1) m (27 + k) 2 = nI (b + a) := by rw [ecl_row (by omega) (by omega) (by omega)]; exact e.hh
    have d3 : ecl C (k + 1) m (43 + k) = C (43 + k) := ecl_row (by omega) (by omega) (by omega)
    have r := ((e.1.drop (n := b) (by omega)).mp (nI (p + 3)))
    rw [up2_comm (a := 19) (b := 15) M _ _ (Or.inl (by decide))] at r
    have r3 : R3 (up2 C (27 + k) 2 (nI b)) (up2 (up2 M 15 k (nI (p + 3))) 19 k (nI b)) k b := ⟨r, by rw [up2_cell _ _ _ _ _ _ (Or.inr (by decide)), e.cp, up2_cell _ _ _ _ _ _ (Or.inl (by decide)), up2_at]⟩
    have r4 := entr r3.base (show k + 1 < 8 by omega) hm
    rw [if_neg nf, if_neg nf, ic_of _ e.f hk (by omega), center c9 (by omega) hm, bn_s, cargs k b (by omega) a LF (ecl C (k + 1) m) (by unfold LF; omega) ha h16 d1 d2, mgo_0 e, hact, bn_eta, d3, ecl_up2 (by omega) (by omega) (by omega) (by omega)]
    have n24 : (eml (up2 (up2 M 15 k (nI (p + 3))) 19 k (nI b)) (k + 1) m) 0 24 = nI (k + 2) := eml_24
    have n19 : (eml (up2 (up2 M 15 k (nI (p + 3))) 19 k (nI b)) (k + 1) m) 19 k = nI b := by rw [eml_19, if_neg (by omega), up2_at]
    have n18 : (eml (up2 (up2 M 15 k (nI (p + 3))) 19 k (nI b)) (k + 1) m) 18 = M 18 := by rw [eml_row (by decide), up2_row _ _ _ _ _ (by decide), up2_row _ _ _ _ _ (by decide)]
    refine OUT.go rfl ?_ (r4.args (f := fun i => C (43 + k) (b + i)) (g := fun i => M 18 (16 * k + b + (0 + i))) ha (fun i hi => ?_))
    · unfold pX9_callIt
      rw [mbyte (x := 1) (j := 1) e.m hk e.mp rfl (by omega), bn_s, mbyte (x := 2) (j := 2) e.m hk e.mp rfl (by omega), bn_s, ex, ey, mtop e.m, bn_s, mon e.m hk, bn_s, r9, r16, mdrop (M := up2 M 15 k (M 15 k + 3)) (k := k) (h := b + a) (n := a) e.m hk e.mh rfl (by omega), bn_s, Nat.add_sub_cancel, e.mp, show (3 : Int32) = nI 3 from rfl, nI_add, menter (M := up2 (up2 M 15 k (nI (p + 3))) 19 k (nI b)) (n := k + 1) e.m (by omega) hm, bn_s]
      have := margs k b a (by omega) ha h16 a LF 0 _ (by unfold LF; omega) (by omega) n24 n19
      rw [n18] at this
      exact this
    · have q := e.st (n := b + i) (by omega)
      show C (43 + k) (b + i) = M 18 (16 * k + b + (0 + i)) ∧ S16 (M 18 (16 * k + b + (0 + i)))
      rw [show 16 * k + b + (0 + i) = 16 * k + (b + i) by omega]
      exact q
theorem op_call {C M : St} {k h p j : Nat} (hj : j = 24 ∨ j = 27) (e : EX C M k h p j 3) : OUT (pX6_callOrEnd C j) (mgo M (bn (bn (pX9_byteAt M 2) fun r1 => some (r1 - r1 / 9 * 9)) fun r9 => if r9 ≤ nI h then pX9_fault_b248 M (nI j) else some 6)) := by
  have hk := e.k
  have hl := e.pl
  have h16 := e.h16
  obtain ⟨x, hx, ex⟩ := e.byte (p + 1)
  obtain ⟨y, hy, ey⟩ := e.byte (p + 2)
  have hm : x % 16 < 16 := Nat.mod_lt _ (by decide)
  have ha : y % 9 < 9 := Nat.mod_lt _ (by decide)
  have mb1 : pX9_byteAt M 1 = some (nI x) := by rw [mbyte (x := 1) (j := 1) e.m hk e.mp rfl (by omega), ex]
  have mb2 : pX9_byteAt M 2 = some (nI y) := by rw [mbyte (x := 2) (j := 2) e.m hk e.mp rfl (by omega), ey]
  have r16 : nI x - nI x / 16 * 16 = nI (x % 16) := by rw [show (16 : Int32) = nI 16 from rfl, nI_remN (by omega) (by decide) (by decide)]
  have r9 : nI y - nI y / 9 * 9 = nI (y % 9) := by rw [show (9 : Int32) = nI 9 from rfl, nI_remN (by omega) (by decide) (by decide)]
  have gm : inb (nI (x % 16)) 16 = true := inb_nI hm (by decide)
  have gk : inb (nI k) 8 = true := inb_nI hk (by decide)
  have ow : C (27 + k) 3 = M 14 k := (e.1.1.2.2.2.2.1 k (Nat.le_refl _)).1
  have cow : C (6 + x % 16) 0 = M 2 (x % 16) := e.1.1.1.s (scl_m _ hm).1
  have cop : C (6 + x % 16) 2 = M 4 (x % 16) := e.1.1.1.s (scl_m _ hm).2.2
  have hc : ∀ w, (w = 24 ∨ w = 27) → pX6_callOrEnd C w = pX6_call C w := fun w hw => by
    rcases hw with rfl | rfl
    · rw [show pX6_callOrEnd C 24 = (bn2 (pX6_call C 24) fun r4 M4 => some (r4, M4)) from rfl, bn2_eta]
    · rw [show pX6_callOrEnd C 27 = (bn2 (pX6_call C 27) fun r4 M4 => some (r4, M4)) from rfl, bn2_eta]
  rw [hc j hj, mb2, bn_s, bn_s, r9]
  unfold pX6_call
  rw [cuns (x := 1) (j := 1) e.at' rfl (by omega), bn_s, e.code, ex, r16, ic_nI _ hm (by decide), cuns (x := 2) (j := 2) e.at' rfl (by omega), bn_s, e.code, ey, r9, ic_of _ e.f hk (by omega), e.hh]
  by_cases c1 : y % 9 ≤ h
  rotate_left
  · rw [if_neg (fun q => c1 (by have := (nI_leI (by omega) (by omega)).mp q; omega)), if_neg (fun q => c1 (by have := (nI_leI (by omega) (by omega)).mp q; omega))]
    exact OUT.thr (S16_nI (n := 6) (by decide)) rfl (mgo_f M (by decide)) e.1.1
  have c1' : nI (y % 9) ≤ nI h := (nI_leI (by omega) (by omega)).mpr c1
  rw [if_pos c1', if_pos c1']
  unfold pX9_fault_b248
  rw [mb1, bn_s, r16, ix_nI (show x % 16 < 2 ^ 31 by omega), gd_t gm, gd_t gm, mtop e.m, bn_s, gd_t gk, ix_nI (show k < 2 ^ 31 by omega)]
  unfold pX9_fault_b295
  rcases hj with rfl | rfl
  · rw [if_pos rfl, if_pos (show nI 24 = 24 from rfl), ic_of _ e.f hk (by omega), cow, ow]
    by_cases o : M 2 (x % 16) = M 14 k
    · rw [if_pos o, if_pos o, if_neg (show ¬ (1 : Int32) = 0 by decide)]
      exact callGo e hm (by omega) c1 hx hy ex ey rfl rfl rfl
    · rw [if_neg o, if_neg o, if_pos rfl]
      exact OUT.thr (S16_nI (n := 4) (by decide)) rfl (mgo_f M (by decide)) e.1.1
  · rw [if_neg (show ¬ (27 : Nat) = 24 by decide), if_neg (show ¬ nI 27 = 24 by decide), cop]
    by_cases o : M 4 (x % 16) = 0
    · rw [if_pos o, if_pos o]
      exact OUT.thr (S16_nI (n := 4) (by decide)) rfl (mgo_f M (by decide)) e.1.1
    · rw [if_neg o, if_neg o]
      exact callGo e hm (by omega) c1 hx hy ex ey rfl rfl rfl
