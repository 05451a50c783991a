/-! PART II, ends of frames, and what is thrown; instructions 25 and 26 -/
theorem R1.pop {C M : St} {k : Nat} (r : R1 C M (k + 1)) : R1 (up2 (up2 C 1 9 (nI (k + 1))) 1 10 (nI k)) (up2 M 0 24 (nI (k + 1))) k ∧ FRd (up2 (up2 C 1 9 (nI (k + 1))) 1 10 (nI k)) (up2 M 0 24 (nI (k + 1))) k := by
  obtain ⟨hre, hinv, ⟨hk, h1, h2, h3⟩, ⟨g1, g2, g3, g4, g5, g6⟩, hs, hd⟩ := r
  have cr : ∀ a, a ≠ 1 → (up2 (up2 C 1 9 (nI (k + 1))) 1 10 (nI k)) a = C a := fun a h => by rw [up2_row _ _ _ _ _ h, up2_row _ _ _ _ _ h]
  have c1 : ∀ i, i ≠ 9 → i ≠ 10 → (up2 (up2 C 1 9 (nI (k + 1))) 1 10 (nI k)) 1 i = C 1 i := fun i a b => by rw [up2_cell _ _ _ _ _ _ (Or.inr b), up2_cell _ _ _ _ _ _ (Or.inr a)]
  have mr : ∀ b, b ≠ 0 → (up2 M 0 24 (nI (k + 1))) b = M b := fun b h => up2_row _ _ _ _ _ h
  have m0 : ∀ i, i ≠ 24 → (up2 M 0 24 (nI (k + 1))) 0 i = M 0 i := fun i h => up2_cell _ _ _ _ _ _ (Or.inr h)
  have c9 : (up2 (up2 C 1 9 (nI (k + 1))) 1 10 (nI k)) 1 9 = nI (k + 1) := by rw [up2_cell _ _ _ _ _ _ (Or.inr (by decide)), up2_at]
  have c10 : (up2 (up2 C 1 9 (nI (k + 1))) 1 10 (nI k)) 1 10 = nI k := up2_at _ _ _ _
  have m24 : (up2 M 0 24 (nI (k + 1))) 0 24 = nI (k + 1) := up2_at _ _ _ _
  generalize up2 (up2 C 1 9 (nI (k + 1))) 1 10 (nI k) = C' at *
  generalize up2 M 0 24 (nI (k + 1)) = M' at *
  have hre' : RE C' M' := hre.rows' (fun a _ h => cr a h) (fun j hj => c1 j (by omega) (by omega)) (fun b _ h => mr b h) m0
  have hfr : ∀ i, i ≤ k → FRs C' M' i := fun i hi => by
    have := hs i (by omega)
    unfold FRs at this ⊢
    rw [cr (27 + i) (by omega), cr (35 + i) (by omega), mr 14 (by decide), mr 16 (by decide), mr 20 (by decide), mr 17 (by decide)]
    exact this
  have hfd : ∀ i, i ≤ k → FRd C' M' i := fun i hi => by
    have := hd i (by omega)
    unfold FRd FSt at this ⊢
    rw [cr (27 + i) (by omega), cr (43 + i) (by omega), mr 15 (by decide), mr 19 (by decide), mr 18 (by decide)]
    exact this
  refine ⟨⟨hre', hinv.rows (fun b _ h => mr b h) m0, ⟨by omega, c9, m24, c10⟩, ⟨?_, ?_, ?_, ?_, ?_, ?_⟩, hfr, fun i hi => hfd i (by omega)⟩, hfd k (Nat.le_refl _)⟩
  · rw [c1 12 (by decide) (by decide), m0 31 (by decide)]; exact g1
  · rw [c1 13 (by decide) (by decide)]; exact g2
  · rw [m0 35 (by decide)]; exact g3
  · rw [m0 33 (by decide)]; exact g4
  · rw [m0 34 (by decide)]; exact g5
  · rw [m0 11 (by decide)]; exact g6
theorem cleave_s {C : St} {k : Nat} (h : C 1 9 = nI (k + 2)) (hk : k < 8) : pX6_leave C = some (up2 (up2 C 1 9 (nI (k + 1))) 1 10 (nI k)) := by
  unfold pX6_leave
  rw [h, show nI (k + 2) - 1 = nI (k + 1) from nI_m1 (k + 1), lt_s', up2_at, if_neg (nI_nle (by omega) (by omega)), nI_m1, ic_nI _ hk (by decide)]
  rfl
theorem cleave_0 {C : St} (h : C 1 9 = nI 1) : pX6_leave C = some (up2 C 1 9 0) := by
  unfold pX6_leave
  rw [h, show nI 1 - 1 = 0 by decide, lt_s', up2_at, if_pos (by decide)]
theorem throwIt_eq (M : St) (v : Int32) : pX9_throwIt M v = pX9_throwIt_b0 (LF + 1) M v := by
  unfold pX9_throwIt
  rw [pX9_throwIt_b0]
theorem thrL {v : Int32} (hv : S16 v) (k : Nat) : ∀ (N N' : Nat) (C M : St), k + 1 < N → k + 1 < N' → R1 C M k → ∃ C' M', pX6_raise_b5 N C v (nI (k + 1)) = some C' ∧ pX9_throwIt_b0 N' M v = some M' ∧ RS C' M' := by
  induction k with
  | zero =>
    intro N N' C M hN hN' r
    obtain ⟨m, rfl⟩ : ∃ m, N = m + 2 := ⟨N - 2, by omega⟩
    obtain ⟨m', rfl⟩ : ∃ m, N' = m + 2 := ⟨N' - 2, by omega⟩
    rw [pX6_raise_b5, if_neg (nI_nle (by omega) (by omega)), ic_of _ r.f r.k (by omega), pX9_throwIt_b0, r.m, if_neg (nI_nle (by omega) (by omega)), mtop r.m, bn_s, gd_t (inb_nI r.k (by decide)), ix_nI (by decide)]
    rcases (r.2.2.2.2.1 0 (Nat.le_refl _)).2.1 with ⟨a1, a2⟩ | ⟨a1, a2, a3⟩
    · rw [if_pos a1, if_pos a2, cleave_0 r.2.2.1.2.1, bn_s, pX6_raise_b5, if_pos (by decide), show nI (0 + 1) - 1 = 0 by decide, lt_s', pX9_throwIt_b0, if_pos (show (up2 M 0 24 0) 0 24 ≤ 0 by rw [up2_at]; decide)]
      refine ⟨_, _, rfl, rfl, Or.inr ⟨?_, r.2.1, Or.inl ⟨r.2.2.2.1.2.2.2.2.2, rfl, Or.inr (Or.inr rfl)⟩⟩⟩
      rw [show v.toInt16.toInt32 = v from hv]
      exact ((((r.1.left (a := 1) (j := 9) (by decide +kernel) (by decide +kernel) _).right (b := 0) (i := 24) (by decide +kernel) (by decide +kernel) _).left (a := 1) (j := 13) (by decide +kernel) (by decide +kernel) _).right (b := 0) (i := 35) (by decide +kernel) (by decide +kernel) _).both (by decide +kernel) _
    · rw [if_neg a3, if_neg (show ¬ M 16 0 = -1 by rw [a2]; decide)]
      sorry
  | succ k ih =>
    intro N N' C M hN hN' r
    obtain ⟨m, rfl⟩ : ∃ m, N = m + 1 := ⟨N - 1, by omega⟩
    obtain ⟨m', rfl⟩ : ∃ m, N' = m + 1 := ⟨N' - 1, by omega⟩
    have hk := r.k
    rw [pX6_raise_b5, if_neg (nI_nle (by omega) (by omega)), ic_of _ r.f r.k (by omega), pX9_throwIt_b0, r.m, if_neg (nI_nle (by omega) (by omega)), mtop r.m, bn_s, gd_t (inb_nI r.k (by decide)), ix_nI (by omega)]
    rcases (r.2.2.2.2.1 (k + 1) (Nat.le_refl _)).2.1 with ⟨a1, a2⟩ | ⟨a1, a2, a3⟩
    · rw [if_pos a1, if_pos a2, cleave_s r.2.2.1.2.1 (by omega), bn_s, m1eq, show nI (k + 1 + 1) - 1 = nI (k + 1) from nI_m1 (k + 1), lt_s']
      exact ih m m' _ _ (by omega) (by omega) r.pop.1
    · rw [if_neg a3, if_neg (show ¬ M 16 (k + 1) = -1 by rw [a2]; decide)]
      sorry
