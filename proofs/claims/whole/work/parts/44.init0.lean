/-! THE START: the states behind the constructors, and that they agree -/
def cr (k : Nat) : Nat := if k = 0 then 0 else if k = 1 then 1 else if k = 2 then 4 else if k = 3 then 5 else if k = 4 then 2 else if k = 5 then 3 else if k < 22 then k + 12 else if k < 27 then k - 9 else if k < 35 then 34 + 3 * (k - 27) else if k < 43 then 35 + 3 * (k - 35) else if k < 51 then 36 + 3 * (k - 43) else k - 45
theorem cr_lt : ∀ i ∈ List.range 58, cr i < 58 := by decide +kernel
def ci (x : Nat) : Nat := if x = 0 then 0 else if x = 1 then 1 else if x = 2 then 4 else if x = 3 then 5 else if x = 4 then 2 else if x = 5 then 3 else if x < 13 then x + 45 else if x < 18 then x + 9 else if x < 34 then x - 12 else if (x - 34) % 3 = 0 then 27 + (x - 34) / 3 else if (x - 34) % 3 = 1 then 35 + (x - 34) / 3 else 43 + (x - 34) / 3
theorem ci_cr : ∀ i ∈ List.range 58, ci (cr i) = i := by decide +kernel
theorem cr_inj (i : Nat) (hi : i ∈ List.range 58) (j : Nat) (hj : j ∈ List.range 58) (h : cr i = cr j) : i = j := by
  rw [← ci_cr i hi, ← ci_cr j hj, h]
def C0g (S : St) : St := fun a i => if a = 1 then (if i = 10 then -1 else 0) else if a = 2 then S 0 i else if a = 3 then (if i = 0 then 1 else if i = 1 then -1 else 0) else if 51 ≤ a then S (a - 49) i else 0
theorem C0g_2 (S : St) (i : Nat) : C0g S 2 i = S 0 i := rfl
theorem C0g_c (S : St) (i : Nat) : C0g S 1 5 = 0 ∧ C0g S 1 6 = 0 ∧ C0g S 1 7 = 0 ∧ C0g S 3 0 = 1 ∧ C0g S 3 1 = -1 ∧ C0g S 22 1 = 0 ∧ C0g S 24 1 = 0 := ⟨rfl, rfl, rfl, rfl, rfl, rfl, rfl⟩
theorem C0g_r (S : St) : C0g S 4 = (fun _ => 0) ∧ C0g S 51 = S 2 ∧ C0g S 52 = S 3 ∧ C0g S 53 = S 4 ∧ C0g S 54 = S 5 ∧ C0g S 55 = S 6 ∧ C0g S 56 = S 7 ∧ C0g S 57 = S 8 ∧ C0g S 23 = (fun _ => 0) ∧ C0g S 25 = (fun _ => 0) := ⟨rfl, rfl, rfl, rfl, rfl, rfl, rfl, rfl, rfl, rfl⟩
theorem refs_eq {D : va_G} {cA : ClassId} {n a : Nat} {g g' : Nat → Option Nat} {H : Heap} (h : va_at D vwCl (a, .inl (cA, n, .inr (.inr (.inr (.inr g))))) H) (e : ∀ j, j < n → g j = g' j) : va_at D vwCl (a, .inl (cA, n, .inr (.inr (.inr (.inr g'))))) H := by
  have h1 : H[a]? = some (vp_cell cA (n, .inr (.inr (.inr (.inr g))))) := h
  show H[a]? = some (vp_cell cA (n, .inr (.inr (.inr (.inr g')))))
  rw [h1, vp_cell_q, vp_cell_q]
  congr 1
  unfold arrV
  congr 2
  funext j
  show va_rf (g j.val) = va_rf (g' j.val)
  rw [e j.val j.isLt]
theorem SM_rows (i : Nat) : SS i 2 = MM i 5 ∧ SS i 3 = MM i 6 ∧ SS i 4 = MM i 7 ∧ SS i 5 = MM i 8 ∧ SS i 6 = MM i 9 ∧ SS i 7 = MM i 10 ∧ SS i 8 = MM i 11 ∧ MM i 1 = (fun _ => 0) ∧ MM i 2 = (fun _ => 0) ∧ MM i 3 = (fun _ => 0) ∧ MM i 4 = (fun _ => 0) ∧ MM i 12 = (fun _ => 0) ∧ MM i 13 = (fun _ => 0) := by
  induction i with
  | zero => exact ⟨rfl, rfl, rfl, rfl, rfl, rfl, rfl, rfl, rfl, rfl, rfl, rfl, rfl⟩
  | succ i ih =>
    obtain ⟨h2, h3, h4, h5, h6, h7, h8, k1, k2, k3, k4, k12, k13⟩ := ih
    have s : ∀ b, b ≠ 0 → b ≠ 6 → SS (i + 1) b = aS (SS i) i (8 * i) (nI i) 0 (nI 8) b := fun b h1 h2 => by rw [SS, up2_row _ _ _ _ _ h1, zf_row _ _ _ _ _ h2]
    have m : ∀ b, b ≠ 0 → b ≠ 9 → MM (i + 1) b = aM (MM i) i (8 * i) (nI i) 0 (nI 8) b := fun b h1 h2 => by rw [MM, up2_row _ _ _ _ _ h1, zf_row _ _ _ _ _ h2]
    refine ⟨?_, ?_, ?_, ?_, ?_, ?_, ?_, ?_, ?_, ?_, ?_, ?_, ?_⟩
    · rw [s 2 (by decide) (by decide), m 5 (by decide) (by decide)]; show upd (SS i 2) _ _ = upd (MM i 5) _ _; rw [h2]
    · rw [s 3 (by decide) (by decide), m 6 (by decide) (by decide)]; show upd (SS i 3) _ _ = upd (MM i 6) _ _; rw [h3]
    · rw [s 4 (by decide) (by decide), m 7 (by decide) (by decide)]; show upd (SS i 4) _ _ = upd (MM i 7) _ _; rw [h4]
    · rw [s 5 (by decide) (by decide), m 8 (by decide) (by decide)]; show upd (SS i 5) _ _ = upd (MM i 8) _ _; rw [h5]
    · funext z
      rw [SS, MM, up2_row _ _ _ _ _ (show (6 : Nat) ≠ 0 by decide), up2_row _ _ _ _ _ (show (9 : Nat) ≠ 0 by decide), zf_at, zf_at]
      by_cases c : 8 * i ≤ z ∧ z < 8 * i + 8
      · rw [if_pos ⟨rfl, c⟩, if_pos ⟨rfl, c⟩]
      · rw [if_neg (fun q => c q.2), if_neg (fun q => c q.2)]
        show SS i 6 z = MM i 9 z
        rw [h6]
    · rw [s 7 (by decide) (by decide), m 10 (by decide) (by decide)]; exact h7
    · rw [s 8 (by decide) (by decide), m 11 (by decide) (by decide)]; exact h8
    · rw [m 1 (by decide) (by decide)]; exact k1
    · rw [m 2 (by decide) (by decide)]; exact k2
    · rw [m 3 (by decide) (by decide)]; exact k3
    · rw [m 4 (by decide) (by decide)]; exact k4
    · rw [m 12 (by decide) (by decide)]; exact k12
    · rw [m 13 (by decide) (by decide)]; exact k13
theorem SS_0 (i : Nat) : ∀ z, z ≠ 4 → z ≠ 8 → SS i 0 z = 0 := by
  induction i with
  | zero => intro z _ _; rfl
  | succ i ih =>
    intro z h4 h8
    rw [SS, up2_cell _ _ _ _ _ _ (Or.inr h8), zf_row _ _ _ _ _ (by decide)]
    have : aS (SS i) i (8 * i) (nI i) 0 (nI 8) 0 z = SS i 0 z := by
      unfold aS
      rw [up2_row _ _ _ _ _ (by decide), up2_row _ _ _ _ _ (by decide), up2_row _ _ _ _ _ (by decide), up2_row _ _ _ _ _ (by decide), up2_cell _ _ _ _ _ _ (Or.inr h4)]
    rw [this]
    exact ih z h4 h8
theorem MM_0 (i : Nat) : ∀ z, z ≠ 4 → z ≠ 10 → MM i 0 z = M0 0 z := by
  induction i with
  | zero => intro z _ _; rfl
  | succ i ih =>
    intro z h4 h8
    rw [MM, up2_cell _ _ _ _ _ _ (Or.inr h8), zf_row _ _ _ _ _ (by decide)]
    have : aM (MM i) i (8 * i) (nI i) 0 (nI 8) 0 z = MM i 0 z := by
      unfold aM
      rw [up2_row _ _ _ _ _ (by decide), up2_row _ _ _ _ _ (by decide), up2_row _ _ _ _ _ (by decide), up2_row _ _ _ _ _ (by decide), up2_cell _ _ _ _ _ _ (Or.inr h4)]
    rw [this]
    exact ih z h4 h8
theorem scl0 : ∀ p ∈ scl, C0g (SS 4) p.1.1 p.1.2 = MM 4 p.2.1 p.2.2 := by
  intro p hp
  obtain ⟨-, -, -, -, -, -, -, -, k2, k3, k4, -, -⟩ := SM_rows 4
  have s4 := (SS_n 4).1
  have s8 := (SS_n 4).2
  have m4 := (MM_n 4).1
  have m10 := (MM_n 4).2
  have s := SS_0 4
  have m := MM_0 4
  generalize SS 4 = S at *
  generalize MM 4 = M at *
  obtain ⟨c5, c6, c7, c30, c31, c22, c24⟩ := C0g_c S 0
  unfold scl at hp
  rcases List.mem_append.mp hp with h | h
  · simp only [List.mem_cons, List.not_mem_nil, or_false] at h
    rcases h with rfl | rfl | rfl | rfl | rfl | rfl | rfl | rfl | rfl | rfl | rfl | rfl | rfl | rfl
    · exact (C0g_2 S 4).trans (s4.trans m4.symm)
    · exact (C0g_2 S 5).trans ((s 5 (by decide) (by decide)).trans (m 13 (by decide) (by decide)).symm)
    · exact (C0g_2 S 8).trans (s8.trans m10.symm)
    · exact (C0g_2 S 11).trans ((s 11 (by decide) (by decide)).trans (m 15 (by decide) (by decide)).symm)
    · exact (C0g_2 S 12).trans ((s 12 (by decide) (by decide)).trans (m 14 (by decide) (by decide)).symm)
    · exact (C0g_2 S 13).trans ((s 13 (by decide) (by decide)).trans (m 18 (by decide) (by decide)).symm)
    · exact (C0g_2 S 14).trans ((s 14 (by decide) (by decide)).trans (m 19 (by decide) (by decide)).symm)
    · exact c30.trans (m 11 (by decide) (by decide)).symm
    · exact c31.trans (m 12 (by decide) (by decide)).symm
    · exact c22.trans (m 21 (by decide) (by decide)).symm
    · exact c24.trans (m 23 (by decide) (by decide)).symm
    · exact c5.trans (m 33 (by decide) (by decide)).symm
    · exact c6.trans (m 34 (by decide) (by decide)).symm
    · exact c7.trans (m 32 (by decide) (by decide)).symm
  · obtain ⟨w, hm, h⟩ := List.mem_flatMap.mp h
    have hm := List.mem_range.mp hm
    have z : ∀ i, C0g S (6 + w) i = 0 := fun i => by
      unfold C0g
      rw [if_neg (by omega), if_neg (by omega), if_neg (by omega), if_neg (by omega)]
    simp only [List.mem_cons, List.not_mem_nil, or_false] at h
    rcases h with rfl | rfl | rfl
    · exact (z 0).trans (congrFun k2 w).symm
    · exact (z 1).trans (congrFun k3 w).symm
    · exact (z 2).trans (congrFun k4 w).symm
theorem init_RE : RE (C0g (SS 4)) (MM 4) := by
  obtain ⟨h2, h3, h4, h5, h6, h7, h8, k1, k2, k3, k4, k12, k13⟩ := SM_rows 4
  refine ⟨scl0, ?_⟩
  generalize SS 4 = S at *
  generalize MM 4 = M at *
  obtain ⟨r4, r51, r52, r53, r54, r55, r56, r57, r23, r25⟩ := C0g_r S
  intro r hr
  simp only [rws, List.mem_cons, List.not_mem_nil, or_false] at hr
  rcases hr with rfl | rfl | rfl | rfl | rfl | rfl | rfl | rfl | rfl | rfl
  · exact r4.trans k1.symm
  · exact r51.trans h2
  · exact r52.trans h3
  · exact r53.trans h4
  · exact r54.trans h5
  · exact r55.trans h6
  · exact r56.trans h7
  · exact r57.trans h8
  · exact r23.trans k12.symm
  · exact r25.trans k13.symm
theorem obj0 (i : Nat) : Iobj i (8 * i) (MM i 6) (MM i 7) (MM i 8) := by
  induction i with
  | zero => exact fun k h1 h2 => absurd h2 (by omega)
  | succ i ih =>
    have m : ∀ b, b ≠ 0 → b ≠ 9 → MM (i + 1) b = aM (MM i) i (8 * i) (nI i) 0 (nI 8) b := fun b h1 h2 => by rw [MM, up2_row _ _ _ _ _ h1, zf_row _ _ _ _ _ h2]
    rw [m 6 (by decide) (by decide), m 7 (by decide) (by decide), m 8 (by decide) (by decide)]
    exact ih.add (s := 8) (by decide) (by decide) (Or.inl rfl)
theorem init_INV : INV (MM 4) := by
  obtain ⟨h2, h3, h4, h5, h6, h7, h8, k1, k2, k3, k4, k12, k13⟩ := SM_rows 4
  have ob := obj0 4
  have m4 := (MM_n 4).1
  have m10 := (MM_n 4).2
  have m := MM_0 4
  generalize MM 4 = M at *
  refine ⟨?_, ?_, ⟨4, 32, by decide, by decide, by decide, m4, m10, ob, Or.inl (m 13 (by decide) (by decide))⟩, ⟨0, by decide, m 21 (by decide) (by decide)⟩, ⟨0, by decide, m 23 (by decide) (by decide)⟩, Or.inr (m 11 (by decide) (by decide))⟩
  · rw [k1]; exact fun i => ⟨0, by decide, rfl⟩
  · rw [k2, k3, k4]; exact fun m _ => ⟨⟨0, by decide, rfl⟩, ⟨0, by decide, rfl⟩, Or.inl rfl⟩
