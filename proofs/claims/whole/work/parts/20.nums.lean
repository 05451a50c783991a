/-! PART II, numbers and stores -/
theorem up2_rd (M : St) (a j b i : Nat) (v : Int32) : up2 M a j v b i = if b = a then (if i = j then v else M b i) else M b i := by
  unfold up2
  by_cases h : b = a
  · subst h; simp [upd]
  · simp [h]
theorem up2_at (M : St) (a j : Nat) (v : Int32) : up2 M a j v a j = v := by simp [up2_rd]
theorem up2_row (M : St) (a b j : Nat) (v : Int32) (h : b ≠ a) : up2 M a j v b = M b := up2_ne M j v h
theorem up2_cell (M : St) (a b j i : Nat) (v : Int32) (h : b ≠ a ∨ i ≠ j) : up2 M a j v b i = M b i := by
  rw [up2_rd]
  rcases h with h | h
  · rw [if_neg h]
  · by_cases hb : b = a
    · rw [if_pos hb, if_neg h]
    · rw [if_neg hb]
theorem up2_twice (M : St) (a j : Nat) (v w : Int32) : up2 (up2 M a j v) a j w = up2 M a j w := by
  funext b i
  simp only [up2_rd]
  by_cases h : b = a <;> by_cases h2 : i = j <;> simp [h, h2]
theorem up2_comm (M : St) {a b j i : Nat} (v w : Int32) (h : a ≠ b ∨ j ≠ i) : up2 (up2 M a j v) b i w = up2 (up2 M b i w) a j v := by
  funext c z
  simp only [up2_rd]
  by_cases h1 : c = a <;> by_cases h2 : c = b <;> by_cases h3 : z = j <;> by_cases h4 : z = i <;> simp_all
theorem up2_self (M : St) (a j : Nat) : up2 M a j (M a j) = M := by
  funext b i
  rw [up2_rd]
  by_cases h : b = a
  · by_cases h2 : i = j
    · rw [if_pos h, if_pos h2, h, h2]
    · rw [if_pos h, if_neg h2]
  · rw [if_neg h]
theorem nI_eqI {a b : Nat} (ha : a < 2 ^ 31) (hb : b < 2 ^ 31) (h : nI a = nI b) : a = b := (nI_eq ha hb).mp h
theorem ix_nI {n : Nat} (h : n < 2 ^ 31) : ix (nI n) = n := nI_clamp h
theorem nI_subN {a b : Nat} (h : b ≤ a) : nI a - nI b = nI (a - b) := pk_sub h
theorem nI_mulN (a b : Nat) : nI a * nI b = nI (a * b) := pk_mul a b
theorem nI_m1 (n : Nat) : nI (n + 1) - 1 = nI n := nI_pred n
theorem nI_remN {a d : Nat} (ha : a < 2 ^ 31) (h0 : 0 < d) (hd : d < 2 ^ 31) : nI a - nI a / nI d * nI d = nI (a % d) := pk_rem ha h0 hd
theorem gd_t {α : Type} {b : Bool} {x : Option α} (h : b = true) : gd b x = x := by unfold gd; rw [if_pos h]
theorem ic_nI {β : Type} {k n : Nat} (f : Nat → Option β) (h : k < n) (hn : n < 2 ^ 31) : ic (nI k) n f = f k := by
  unfold ic
  rw [if_pos (inb_nI h hn), ix_nI (by omega)]
theorem ic_of {β : Type} {x : Int32} {k n : Nat} (f : Nat → Option β) (hx : x = nI k) (h : k < n) (hn : n < 2 ^ 31) : ic x n f = f k := by
  subst hx; exact ic_nI f h hn
theorem bn_s {α β : Type} (y : α) (f : α → Option β) : bn (some y) f = f y := rfl
theorem bn2_s {α β γ : Type} (y : α) (z : β) (f : α → β → Option γ) : bn2 (some (y, z)) f = f y z := rfl
theorem lt_s' {α β : Type} (v : α) (f : α → Option β) : lt v f = f v := rfl
theorem inb_of' {x : Int32} {k n : Nat} (hx : x = nI k) (h : k < n) (hn : n < 2 ^ 31) : inb x n = true := by subst hx; exact inb_nI h hn
theorem ix_of {x : Int32} {k : Nat} (hx : x = nI k) (h : k < 2 ^ 31) : ix x = k := by subst hx; exact ix_nI h
-- values of 16 bits
def S16 (x : Int32) : Prop := x.toInt16.toInt32 = x
theorem S16_of (x : Int32) : S16 x.toInt16.toInt32 := by
  unfold S16
  rw [show x.toInt16.toInt32.toInt16 = x.toInt16 from by simp]
theorem S16_rng {x : Int32} (h : S16 x) : -32768 ≤ x.toInt ∧ x.toInt < 32768 := by
  rw [← h, Int16.toInt_toInt32]
  exact ⟨Int16.le_toInt _, Int16.toInt_lt _⟩
theorem S16_in {x : Int32} (h1 : -32768 ≤ x.toInt) (h2 : x.toInt < 32768) : S16 x := by
  unfold S16
  apply Int32.toInt_inj.mp
  rw [Int16.toInt_toInt32, Int32.toInt_toInt16]
  rw [Int.bmod_def]
  omega
theorem S16_nI {n : Nat} (h : n < 32768) : S16 (nI n) := S16_in (by rw [nI_toInt (by omega)]; omega) (by rw [nI_toInt (by omega)]; omega)
theorem S16_byte (x : Int32) : S16 x.toInt8.toInt32 := by
  refine S16_in ?_ ?_
  · rw [Int8.toInt_toInt32]; have := Int8.le_toInt x.toInt8; omega
  · rw [Int8.toInt_toInt32]; have := Int8.toInt_lt x.toInt8; omega
theorem S16_0 : S16 0 := S16_nI (n := 0) (by decide)
theorem S16_1 : S16 1 := S16_nI (n := 1) (by decide)
theorem S16_ne {x : Int32} (h : S16 x) : ¬ x = 65536 := fun e => by
  have := S16_rng h
  rw [e] at this
  exact absurd this.2 (by decide)
