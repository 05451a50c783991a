/-! PART II, calls and ends: frames begun and left; what is thrown -/
theorem zf_at (a n : Nat) : ∀ (M : St) (b c i : Nat), zf M a b n c i = if c = a ∧ b ≤ i ∧ i < b + n then 0 else M c i := by
  induction n with
  | zero => intro M b c i; rw [zf, if_neg (by omega)]
  | succ n ih =>
    intro M b c i
    rw [zf, ih, up2_rd]
    by_cases h1 : c = a
    · by_cases h2 : i = b
      · rw [if_neg (by omega), if_pos h1, if_pos h2, if_pos (by omega)]
      · rw [if_pos h1, if_neg h2]
        by_cases h3 : b + 1 ≤ i ∧ i < b + 1 + n
        · rw [if_pos ⟨h1, h3⟩, if_pos (by omega)]
        · rw [if_neg (fun q => h3 q.2), if_neg (by omega)]
    · rw [if_neg (fun q => h1 q.1), if_neg h1, if_neg (fun q => h1 q.1)]
theorem zf_up2 (a n : Nat) {b j : Nat} {v : Int32} (h : b ≠ a) : ∀ (M : St) (i : Nat), up2 (zf M a i n) b j v = zf (up2 M b j v) a i n := by
  induction n with
  | zero => intros; rfl
  | succ n ih => intro M i; rw [zf, zf, ih, up2_comm M v 0 (Or.inl h)]
def cpF (M : St) (r o : Nat) (f : Nat → Int32) (a : Nat) : St := fun b i => if b = r ∧ o ≤ i ∧ i < o + a then f (i - o) else M b i
theorem cpF_row (M : St) (r o : Nat) (f : Nat → Int32) (a b : Nat) (h : b ≠ r) : cpF M r o f a b = M b := by
  funext i
  unfold cpF
  rw [if_neg (fun q => h q.1)]
theorem cpF_up2 (M : St) (r o : Nat) (f : Nat → Int32) (a : Nat) {b j : Nat} {v : Int32} (h : b ≠ r) : up2 (cpF M r o f a) b j v = cpF (up2 M b j v) r o f a := by
  funext c i
  unfold cpF
  rw [up2_rd, up2_rd]
  by_cases h1 : c = b
  · subst h1
    rw [if_pos rfl, if_pos rfl]
    by_cases h2 : i = j
    · rw [if_pos h2, if_pos h2, if_neg (fun q => h q.1)]
    · rw [if_neg h2, if_neg h2]
  · rw [if_neg h1, if_neg h1]
/-- the agreement of both sides speaks of these cells alone -/
theorem RE.rows' {C M C' M' : St} (h : RE C M) (h1 : ∀ a, (a < 26 ∨ 51 ≤ a) → a ≠ 1 → C' a = C a) (h2 : ∀ j, (j = 5 ∨ j = 6 ∨ j = 7) → C' 1 j = C 1 j) (h3 : ∀ b, b < 14 → b ≠ 0 → M' b = M b) (h4 : ∀ i, i ≠ 24 → M' 0 i = M 0 i) : RE C' M' := by
  have s1 : ∀ p ∈ scl, (p.1.1 = 1 → p.1.2 = 5 ∨ p.1.2 = 6 ∨ p.1.2 = 7) ∧ (p.2.1 = 0 → p.2.2 ≠ 24) := by decide +kernel
  have s2 : ∀ r ∈ rws, r.1 ≠ 1 ∧ r.2 ≠ 0 := by decide +kernel
  refine ⟨fun p hp => ?_, fun r hr => ?_⟩
  · have e1 : C' p.1.1 p.1.2 = C p.1.1 p.1.2 := by
      by_cases q : p.1.1 = 1
      · rw [q]; exact h2 _ ((s1 p hp).1 q)
      · rw [h1 _ (Or.inl (scl_lo p hp).1) q]
    have e2 : M' p.2.1 p.2.2 = M p.2.1 p.2.2 := by
      by_cases q : p.2.1 = 0
      · rw [q]; exact h4 _ ((s1 p hp).2 q)
      · rw [h3 _ (scl_lo p hp).2 q]
    rw [e1, e2]
    exact h.1 p hp
  · rw [h1 _ (rws_lo r hr).1 (s2 r hr).1, h3 _ (rws_lo r hr).2 (s2 r hr).2]
    exact h.2 r hr
def BASE (C M : St) (n : Nat) : Prop := RE C M ∧ INV M ∧ (C 1 9 = nI n ∧ M 0 24 = nI n) ∧ (C 1 12 = M 0 31 ∧ C 1 13 = 1 ∧ M 0 35 = -1 ∧ M 0 33 = 0 ∧ M 0 34 = 0 ∧ M 0 11 = 1) ∧ (∀ i, i < n → FRs C M i) ∧ ∀ i, i < n → FRd C M i
def ecl (C : St) (n m : Nat) : St := up2 (up2 (up2 (up2 (zf (up2 (up2 C 1 10 (nI n)) 1 9 (nI (n + 1))) (35 + n) 0 8) (27 + n) 2 0) (27 + n) 3 (C (6 + m) 0)) (27 + n) 4 (C (6 + m) 1)) (27 + n) 5 MIN
def eml (M : St) (n m : Nat) : St := up2 (zf (up2 (up2 (up2 (up2 M 14 n (M 2 m)) 15 n (M 3 m)) 16 n (-1)) 19 n 0) 17 (8 * n) 8) 0 24 (nI (n + 1))
theorem INV.eml {M : St} (h : INV M) (n m : Nat) : INV (_root_.eml M n m) := h
