/-! PART II, the relation of the class's state and the reference's -/
def scl : List ((Nat × Nat) × (Nat × Nat)) := [((2, 4), (0, 4)), ((2, 5), (0, 13)), ((2, 8), (0, 10)), ((2, 11), (0, 15)), ((2, 12), (0, 14)), ((2, 13), (0, 18)), ((2, 14), (0, 19)), ((3, 0), (0, 11)), ((3, 1), (0, 12)), ((22, 1), (0, 21)), ((24, 1), (0, 23)), ((1, 5), (0, 33)), ((1, 6), (0, 34)), ((1, 7), (0, 32))] ++ (List.range 16).flatMap (fun m => [((6 + m, 0), (2, m)), ((6 + m, 1), (3, m)), ((6 + m, 2), (4, m))])
def rws : List (Nat × Nat) := [(4, 1), (51, 5), (52, 6), (53, 7), (54, 8), (55, 9), (56, 10), (57, 11), (23, 12), (25, 13)]
def RE (C M : St) : Prop := (∀ p ∈ scl, C p.1.1 p.1.2 = M p.2.1 p.2.2) ∧ ∀ p ∈ rws, C p.1 = M p.2
theorem scl_inj : ∀ p ∈ scl, ∀ p' ∈ scl, (p.1 = p'.1 ↔ p.2 = p'.2) := by decide +kernel
theorem scl_rws : ∀ p ∈ scl, ∀ r ∈ rws, p.1.1 ≠ r.1 ∧ p.2.1 ≠ r.2 := by decide +kernel
theorem rws_inj : ∀ r ∈ rws, ∀ r' ∈ rws, (r.1 = r'.1 ↔ r.2 = r'.2) := by decide +kernel
theorem scl_lo : ∀ p ∈ scl, p.1.1 < 26 ∧ p.2.1 < 14 := by decide +kernel
theorem rws_lo : ∀ r ∈ rws, (r.1 < 26 ∨ 51 ≤ r.1) ∧ r.2 < 14 := by decide +kernel
theorem RE.s {C M : St} (h : RE C M) {a j b i : Nat} (hp : ((a, j), (b, i)) ∈ scl) : C a j = M b i := h.1 _ hp
theorem RE.r {C M : St} (h : RE C M) {a b : Nat} (hp : (a, b) ∈ rws) : C a = M b := h.2 _ hp
theorem RE.both {C M : St} (h : RE C M) {a j b i : Nat} (hp : ((a, j), (b, i)) ∈ scl) (v : Int32) : RE (up2 C a j v) (up2 M b i v) := by
  refine ⟨fun p hp' => ?_, fun r hr => ?_⟩
  · have e := scl_inj p hp' _ hp
    by_cases q : p.1 = (a, j)
    · have q2 := e.mp q
      rw [q, q2]
      simp only [up2_at]
    · have q2 : ¬ p.2 = (b, i) := fun z => q (e.mpr z)
      rw [up2_cell, up2_cell]
      · exact h.1 p hp'
      · by_cases z : p.2.1 = b
        · exact Or.inr (fun y => q2 (Prod.ext z y))
        · exact Or.inl z
      · by_cases z : p.1.1 = a
        · exact Or.inr (fun y => q (Prod.ext z y))
        · exact Or.inl z
  · have e := scl_rws _ hp r hr
    rw [up2_row _ _ _ _ _ (Ne.symm e.1), up2_row _ _ _ _ _ (Ne.symm e.2)]
    exact h.2 r hr
theorem RE.row {C M : St} (h : RE C M) {a b : Nat} (hp : (a, b) ∈ rws) (j : Nat) (v : Int32) : RE (up2 C a j v) (up2 M b j v) := by
  refine ⟨fun p hp' => ?_, fun r hr => ?_⟩
  · have e := scl_rws p hp' _ hp
    rw [up2_row _ _ _ _ _ e.1, up2_row _ _ _ _ _ e.2]
    exact h.1 p hp'
  · have e := rws_inj r hr _ hp
    by_cases q : r.1 = a
    · have q2 := e.mp q
      funext z
      rw [up2_rd, up2_rd, if_pos q, if_pos q2, h.2 r hr]
    · have q2 : ¬ r.2 = b := fun z => q (e.mpr z)
      rw [up2_row _ _ _ _ _ q, up2_row _ _ _ _ _ q2]
      exact h.2 r hr
theorem RE.left {C M : St} (h : RE C M) {a j : Nat} (h1 : ∀ p ∈ scl, p.1.1 = a → p.1.2 ≠ j) (h2 : ∀ r ∈ rws, r.1 ≠ a) (v : Int32) : RE (up2 C a j v) M := by
  refine ⟨fun p hp' => ?_, fun r hr => ?_⟩
  · rw [up2_cell]
    · exact h.1 p hp'
    · by_cases z : p.1.1 = a
      · exact Or.inr (h1 p hp' z)
      · exact Or.inl z
  · rw [up2_row _ _ _ _ _ (h2 r hr)]
    exact h.2 r hr
theorem RE.leftF {C M : St} (h : RE C M) {a : Nat} (j : Nat) (h1 : 26 ≤ a) (h2 : a < 51) (v : Int32) : RE (up2 C a j v) M :=
  h.left (fun p hp e => absurd e (by have := scl_lo p hp; omega)) (fun r hr => by have := rws_lo r hr; omega) v
theorem RE.right {C M : St} (h : RE C M) {b i : Nat} (h1 : ∀ p ∈ scl, p.2.1 = b → p.2.2 ≠ i) (h2 : ∀ r ∈ rws, r.2 ≠ b) (v : Int32) : RE C (up2 M b i v) := by
  refine ⟨fun p hp' => ?_, fun r hr => ?_⟩
  · rw [up2_cell _ _ _ _ _ _ (by by_cases z : p.2.1 = b; exact Or.inr (h1 p hp' z); exact Or.inl z)]
    exact h.1 p hp'
  · rw [up2_row _ _ _ _ _ (h2 r hr)]
    exact h.2 r hr
theorem RE.rightF {C M : St} (h : RE C M) {b : Nat} (i : Nat) (h1 : 14 ≤ b) (v : Int32) : RE C (up2 M b i v) :=
  h.right (fun p hp e => absurd e (by have := scl_lo p hp; omega)) (fun r hr => by have := rws_lo r hr; omega) v
-- what holds of the reference's state at any time
def Ibyte (f : Nat → Int32) : Prop := ∀ i, ∃ n, n < 256 ∧ f i = nI n
def Imeth (o f z : Nat → Int32) : Prop := ∀ m, m < 16 → (∃ n, n < 4 ∧ o m = nI n) ∧ (∃ n, n < 512 ∧ f m = nI n) ∧ (z m = 0 ∨ z m = 1)
def Iobj (n c : Nat) (so si ba : Nat → Int32) : Prop := ∀ k, 1 ≤ k → k ≤ n → (so k = 0 ∨ so k = 1) ∧ ∃ s b, 1 ≤ s ∧ s ≤ 16 ∧ b + s ≤ c ∧ si k = nI s ∧ ba k = nI b
def Itx (n c : Nat) (t0 w0 ob0 cb0 : Int32) (ca so si ba : Nat → Int32) : Prop := ∃ t w ob cb, t ≤ 20 ∧ w ≤ t ∧ t0 = nI t ∧ w0 = nI w ∧ 4 ≤ ob ∧ ob ≤ n ∧ cb ≤ c ∧ ob0 = nI ob ∧ cb0 = nI cb ∧ Iobj ob cb so si ba ∧ ∀ z, z < w → ∃ a, a < 240 ∧ ca z = nI a
def Ist (n0 c0 op t0 w0 ob0 cb0 : Int32) (ca so si ba : Nat → Int32) : Prop := ∃ n c, 4 ≤ n ∧ n ≤ 40 ∧ c ≤ 240 ∧ n0 = nI n ∧ c0 = nI c ∧ Iobj n c so si ba ∧ (op = 0 ∨ (op = 1 ∧ Itx n c t0 w0 ob0 cb0 ca so si ba))
def INV (M : St) : Prop := Ibyte (M 1) ∧ Imeth (M 2) (M 3) (M 4) ∧ Ist (M 0 4) (M 0 10) (M 0 13) (M 0 14) (M 0 15) (M 0 18) (M 0 19) (M 10) (M 6) (M 7) (M 8) ∧ (∃ n, n ≤ 32 ∧ M 0 21 = nI n) ∧ (∃ n, n ≤ 32 ∧ M 0 23 = nI n) ∧ (M 0 11 = 0 ∨ M 0 11 = 1)
-- the frames
abbrev MIN : Int32 := -1024
def FRs (C M : St) (i : Nat) : Prop := C (27 + i) 3 = M 14 i ∧ ((C (27 + i) 5 = MIN ∧ M 16 i = -1) ∨ (C (27 + i) 5 = M 20 i ∧ M 16 i = 1 ∧ ¬ C (27 + i) 5 = MIN)) ∧ ∀ j, j < 8 → C (35 + i) j = M 17 (8 * i + j) ∧ S16 (M 17 (8 * i + j))
def FSt (C M : St) (i h : Nat) : Prop := h ≤ 16 ∧ C (27 + i) 2 = nI h ∧ M 19 i = nI h ∧ ∀ j, j < h → C (43 + i) j = M 18 (16 * i + j) ∧ S16 (M 18 (16 * i + j))
def FRd (C M : St) (i : Nat) : Prop := C (27 + i) 4 = M 15 i ∧ ∃ h, FSt C M i h
/-- while a command is performed: all but the last frame's place and stack -/
def R1 (C M : St) (k : Nat) : Prop := RE C M ∧ INV M ∧ (k < 8 ∧ C 1 9 = nI (k + 1) ∧ M 0 24 = nI (k + 1) ∧ C 1 10 = nI k) ∧ (C 1 12 = M 0 31 ∧ C 1 13 = 1 ∧ M 0 35 = -1 ∧ M 0 33 = 0 ∧ M 0 34 = 0 ∧ M 0 11 = 1) ∧ (∀ i, i ≤ k → FRs C M i) ∧ ∀ i, i < k → FRd C M i
theorem R1.congr {C M C' M' : St} {k : Nat} (h : R1 C M k) (hre : RE C' M') (hinv : INV M') (c1 : ∀ j, (j = 9 ∨ j = 10 ∨ j = 12 ∨ j = 13) → C' 1 j = C 1 j) (c2 : ∀ i, i ≤ k → C' (27 + i) 3 = C (27 + i) 3 ∧ C' (27 + i) 5 = C (27 + i) 5) (c3 : ∀ i j, i ≤ k → j < 8 → C' (35 + i) j = C (35 + i) j) (c4 : ∀ i, i < k → C' (27 + i) 2 = C (27 + i) 2 ∧ C' (27 + i) 4 = C (27 + i) 4) (c5 : ∀ i j, i < k → j < 16 → C' (43 + i) j = C (43 + i) j)
    (m0 : ∀ i, (i = 11 ∨ i = 24 ∨ i = 31 ∨ i = 33 ∨ i = 34 ∨ i = 35) → M' 0 i = M 0 i) (m1 : ∀ i, i ≤ k → M' 14 i = M 14 i ∧ M' 16 i = M 16 i ∧ M' 20 i = M 20 i) (m2 : ∀ z, z < 8 * (k + 1) → M' 17 z = M 17 z) (m3 : ∀ i, i < k → M' 15 i = M 15 i ∧ M' 19 i = M 19 i) (m4 : ∀ z, z < 16 * k → M' 18 z = M 18 z) : R1 C' M' k := by
  obtain ⟨-, -, ⟨hk, h1, h2, h3⟩, ⟨h4, h5, h6, h7, h8, h9⟩, hs, hd⟩ := h
  refine ⟨hre, hinv, ⟨hk, ?_, ?_, ?_⟩, ⟨?_, ?_, ?_, ?_, ?_, ?_⟩, fun i hi => ?_, fun i hi => ?_⟩
  · rw [c1 9 (by omega)]; exact h1
  · rw [m0 24 (by omega)]; exact h2
  · rw [c1 10 (by omega)]; exact h3
  · rw [c1 12 (by omega), m0 31 (by omega)]; exact h4
  · rw [c1 13 (by omega)]; exact h5
  · rw [m0 35 (by omega)]; exact h6
  · rw [m0 33 (by omega)]; exact h7
  · rw [m0 34 (by omega)]; exact h8
  · rw [m0 11 (by omega)]; exact h9
  · obtain ⟨q1, q2, q3⟩ := hs i hi
    refine ⟨?_, ?_, fun j hj => ?_⟩
    · rw [(c2 i hi).1, (m1 i hi).1]; exact q1
    · rw [(c2 i hi).2, (m1 i hi).2.1, (m1 i hi).2.2]; exact q2
    · rw [c3 i j hi hj, m2 _ (by omega)]; exact q3 j hj
  · obtain ⟨q1, h, q2, q3, q4, q5⟩ := hd i hi
    refine ⟨?_, h, q2, ?_, ?_, fun j hj => ?_⟩
    · rw [(c4 i hi).2, (m3 i hi).1]; exact q1
    · rw [(c4 i hi).1]; exact q3
    · rw [(m3 i hi).2]; exact q4
    · rw [c5 i j hi (by omega), m4 _ (by omega)]; exact q5 j hj
-- changes of one side alone
theorem R1.ch {C M : St} {k : Nat} (h : R1 C M k) (v : Int32) : R1 (up2 C (27 + k) 2 v) M k :=
  h.congr (h.1.leftF 2 (by omega) (by have := h.2.2.1.1; omega) v) h.2.1 (fun j _ => up2_cell _ _ _ _ _ _ (Or.inl (by omega))) (fun i _ => ⟨up2_cell _ _ _ _ _ _ (Or.inr (by decide)), up2_cell _ _ _ _ _ _ (Or.inr (by decide))⟩) (fun i j _ _ => up2_cell _ _ _ _ _ _ (Or.inl (by have := h.2.2.1.1; omega))) (fun i hi => ⟨up2_cell _ _ _ _ _ _ (Or.inl (by omega)), up2_cell _ _ _ _ _ _ (Or.inl (by omega))⟩) (fun i j hi _ => up2_cell _ _ _ _ _ _ (Or.inl (by have := h.2.2.1.1; omega))) (fun _ _ => rfl) (fun _ _ => ⟨rfl, rfl, rfl⟩) (fun _ _ => rfl) (fun _ _ => ⟨rfl, rfl⟩) (fun _ _ => rfl)
theorem R1.cp {C M : St} {k : Nat} (h : R1 C M k) (v : Int32) : R1 (up2 C (27 + k) 4 v) M k :=
  h.congr (h.1.leftF 4 (by omega) (by have := h.2.2.1.1; omega) v) h.2.1 (fun j _ => up2_cell _ _ _ _ _ _ (Or.inl (by omega))) (fun i _ => ⟨up2_cell _ _ _ _ _ _ (Or.inr (by decide)), up2_cell _ _ _ _ _ _ (Or.inr (by decide))⟩) (fun i j _ _ => up2_cell _ _ _ _ _ _ (Or.inl (by have := h.2.2.1.1; omega))) (fun i hi => ⟨up2_cell _ _ _ _ _ _ (Or.inl (by omega)), up2_cell _ _ _ _ _ _ (Or.inl (by omega))⟩) (fun i j hi _ => up2_cell _ _ _ _ _ _ (Or.inl (by have := h.2.2.1.1; omega))) (fun _ _ => rfl) (fun _ _ => ⟨rfl, rfl, rfl⟩) (fun _ _ => rfl) (fun _ _ => ⟨rfl, rfl⟩) (fun _ _ => rfl)
theorem R1.cs {C M : St} {k : Nat} (h : R1 C M k) (j0 : Nat) (v : Int32) : R1 (up2 C (43 + k) j0 v) M k :=
  h.congr (h.1.leftF j0 (by omega) (by have := h.2.2.1.1; omega) v) h.2.1 (fun j _ => up2_cell _ _ _ _ _ _ (Or.inl (by omega))) (fun i hi => ⟨up2_cell _ _ _ _ _ _ (Or.inl (by have := h.2.2.1.1; omega)), up2_cell _ _ _ _ _ _ (Or.inl (by have := h.2.2.1.1; omega))⟩) (fun i j hi _ => up2_cell _ _ _ _ _ _ (Or.inl (by have := h.2.2.1.1; omega))) (fun i hi => ⟨up2_cell _ _ _ _ _ _ (Or.inl (by have := h.2.2.1.1; omega)), up2_cell _ _ _ _ _ _ (Or.inl (by have := h.2.2.1.1; omega))⟩) (fun i j hi _ => up2_cell _ _ _ _ _ _ (Or.inl (by omega))) (fun _ _ => rfl) (fun _ _ => ⟨rfl, rfl, rfl⟩) (fun _ _ => rfl) (fun _ _ => ⟨rfl, rfl⟩) (fun _ _ => rfl)
theorem R1.ca {C M : St} {k : Nat} (h : R1 C M k) (v : Int32) : R1 (up2 C 1 11 v) M k :=
  h.congr (h.1.left (by decide +kernel) (by decide +kernel) v) h.2.1 (fun j hj => up2_cell _ _ _ _ _ _ (Or.inr (by omega))) (fun i hi => ⟨up2_cell _ _ _ _ _ _ (Or.inl (by omega)), up2_cell _ _ _ _ _ _ (Or.inl (by omega))⟩) (fun i j hi _ => up2_cell _ _ _ _ _ _ (Or.inl (by omega))) (fun i hi => ⟨up2_cell _ _ _ _ _ _ (Or.inl (by omega)), up2_cell _ _ _ _ _ _ (Or.inl (by omega))⟩) (fun i j hi _ => up2_cell _ _ _ _ _ _ (Or.inl (by omega))) (fun _ _ => rfl) (fun _ _ => ⟨rfl, rfl, rfl⟩) (fun _ _ => rfl) (fun _ _ => ⟨rfl, rfl⟩) (fun _ _ => rfl)
theorem R1.mh {C M : St} {k : Nat} (h : R1 C M k) (v : Int32) : R1 C (up2 M 19 k v) k :=
  h.congr (h.1.rightF k (by decide) v) h.2.1 (fun _ _ => rfl) (fun _ _ => ⟨rfl, rfl⟩) (fun _ _ _ _ => rfl) (fun _ _ => ⟨rfl, rfl⟩) (fun _ _ _ _ => rfl) (fun _ _ => rfl) (fun _ _ => ⟨rfl, rfl, rfl⟩) (fun _ _ => rfl) (fun i hi => ⟨rfl, up2_cell _ _ _ _ _ _ (Or.inr (by omega))⟩) (fun _ _ => rfl)
theorem R1.mp {C M : St} {k : Nat} (h : R1 C M k) (v : Int32) : R1 C (up2 M 15 k v) k :=
  h.congr (h.1.rightF k (by decide) v) h.2.1 (fun _ _ => rfl) (fun _ _ => ⟨rfl, rfl⟩) (fun _ _ _ _ => rfl) (fun _ _ => ⟨rfl, rfl⟩) (fun _ _ _ _ => rfl) (fun _ _ => rfl) (fun _ _ => ⟨rfl, rfl, rfl⟩) (fun _ _ => rfl) (fun i hi => ⟨up2_cell _ _ _ _ _ _ (Or.inr (by omega)), rfl⟩) (fun _ _ => rfl)
theorem R1.ms {C M : St} {k : Nat} (h : R1 C M k) (j : Nat) (v : Int32) : R1 C (up2 M 18 (16 * k + j) v) k :=
  h.congr (h.1.rightF _ (by decide) v) h.2.1 (fun _ _ => rfl) (fun _ _ => ⟨rfl, rfl⟩) (fun _ _ _ _ => rfl) (fun _ _ => ⟨rfl, rfl⟩) (fun _ _ _ _ => rfl) (fun _ _ => rfl) (fun _ _ => ⟨rfl, rfl, rfl⟩) (fun _ _ => rfl) (fun i hi => ⟨rfl, rfl⟩) (fun z hz => up2_cell _ _ _ _ _ _ (Or.inr (by omega)))
-- the last frame's stack
def R2 (C M : St) (k h : Nat) : Prop := R1 C M k ∧ FSt C M k h
theorem R2.cp {C M : St} {k h : Nat} (r : R2 C M k h) (v : Int32) : R2 (up2 C (27 + k) 4 v) M k h := by
  have hk := r.1.2.2.1.1
  refine ⟨r.1.cp v, r.2.1, ?_, r.2.2.2.1, fun j hj => ?_⟩
  · rw [up2_cell _ _ _ _ _ _ (Or.inr (by decide))]; exact r.2.2.1
  · rw [up2_cell _ _ _ _ _ _ (Or.inl (by omega))]; exact r.2.2.2.2 j hj
theorem R2.ca {C M : St} {k h : Nat} (r : R2 C M k h) (v : Int32) : R2 (up2 C 1 11 v) M k h := by
  refine ⟨r.1.ca v, r.2.1, ?_, r.2.2.2.1, fun j hj => ?_⟩
  · rw [up2_cell _ _ _ _ _ _ (Or.inl (by omega))]; exact r.2.2.1
  · rw [up2_cell _ _ _ _ _ _ (Or.inl (by omega))]; exact r.2.2.2.2 j hj
theorem R2.mp {C M : St} {k h : Nat} (r : R2 C M k h) (v : Int32) : R2 C (up2 M 15 k v) k h :=
  ⟨r.1.mp v, r.2.1, r.2.2.1, r.2.2.2.1, r.2.2.2.2⟩
theorem R2.drop {C M : St} {k h : Nat} (r : R2 C M k h) {n : Nat} (hn : n ≤ h) : R2 (up2 C (27 + k) 2 (nI n)) (up2 M 19 k (nI n)) k n := by
  have hk := r.1.2.2.1.1
  refine ⟨(r.1.ch _).mh _, by have := r.2.1; omega, up2_at _ _ _ _, up2_at _ _ _ _, fun j hj => ?_⟩
  rw [up2_cell _ _ _ _ _ _ (Or.inl (by omega))]
  exact r.2.2.2.2 j (by omega)
theorem R2.push {C M : St} {k h : Nat} (r : R2 C M k h) (h16 : h < 16) {v : Int32} (hv : S16 v) : R2 (up2 (up2 C (43 + k) h v) (27 + k) 2 (nI (h + 1))) (up2 (up2 M 18 (16 * k + h) v) 19 k (nI (h + 1))) k (h + 1) := by
  have hk := r.1.2.2.1.1
  refine ⟨(((r.1.cs h v).ch _).ms h v).mh _, by omega, up2_at _ _ _ _, up2_at _ _ _ _, fun j hj => ?_⟩
  rw [up2_cell _ _ _ _ _ _ (Or.inl (show 43 + k ≠ 27 + k by omega)), up2_rd, if_pos rfl, up2_cell _ _ _ _ _ _ (Or.inl (show (18 : Nat) ≠ 19 by decide)), up2_rd, if_pos rfl]
  by_cases e : j = h
  · subst e
    rw [if_pos rfl, if_pos rfl]
    exact ⟨rfl, hv⟩
  · rw [if_neg e, if_neg (by omega)]
    exact r.2.2.2.2 j (by omega)
/-- all of it -/
def R3 (C M : St) (k h : Nat) : Prop := R2 C M k h ∧ C (27 + k) 4 = M 15 k
