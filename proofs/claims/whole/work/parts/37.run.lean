/-! PART II, a command from its begin to its end -/
theorem RFin.exitC {C M : St} (h : RFin C M) {N : Nat} (hN : 0 < N) (z : Int32) : pX6_perform_b8 N C z = pX6_perform_b82 C := by
  obtain ⟨n, rfl⟩ : ∃ n, N = n + 1 := ⟨N - 1, by omega⟩
  rw [pX6_perform_b8]
  by_cases a : C 1 12 < z
  · rw [if_pos a]
  rw [if_neg a]
  rcases h.2.2 with ⟨p1, p2, p3⟩ | ⟨p1, p2, p3⟩
  · have : ¬ C 1 13 = 1 := by
      rw [p2]
      rcases p3 with p3 | p3 | p3 <;> rw [p3] <;> decide
    rw [if_neg this]
  · have c0 : C 3 0 = 0 := (h.1.s (a := 3) (j := 0) (b := 0) (i := 11) (by decide +kernel)).trans p1
    by_cases b : C 1 13 = 1
    · rw [if_pos b, if_pos c0]
    · rw [if_neg b]
theorem RFin.exitM {C M : St} (h : RFin C M) {N : Nat} (hN : 0 < N) : pX9_run_b70 N M = pX9_run_b92 M := by
  obtain ⟨n, rfl⟩ : ∃ n, N = n + 1 := ⟨N - 1, by omega⟩
  rw [pX9_run_b70]
  rcases h.2.2 with ⟨p1, p2, p3⟩ | ⟨p1, p2, p3⟩
  · have : ¬ M 0 35 = -1 := by
      rcases p3 with p3 | p3 | p3 <;> rw [p3] <;> decide
    rw [if_neg (show ¬ M 0 11 = 0 by rw [p1]; decide), if_neg this]
  · rw [if_pos p1]
theorem cgo_bn {β : Type} (x : Option (Int32 × St)) (g : St → Option β) : (bn2 x fun r1 M1 => if r1 = 65536 then g M1 else bn (pX6_raise M1 r1) g) = bn (cgo x) g := by
  unfold cgo
  cases x with
  | none => rfl
  | some y =>
    obtain ⟨r, D⟩ := y
    rw [bn2_s, bn2_s]
    by_cases h : r = 65536
    · rw [if_pos h, if_pos h, bn_s]
    · rw [if_neg h, if_neg h]
theorem runL (F : Nat) (h3 : F ≤ 3000) (d : Nat) : ∀ (N N' k h z U : Nat) (C M : St), R3 C M k h → M 0 31 = nI F → M 0 32 = nI U → z ≤ U → U ≤ F → F - U ≤ d → d + 2 ≤ N' → F - z + 2 ≤ N → ∃ C' M', pX6_perform_b8 N C (nI z) = pX6_perform_b82 C' ∧ pX9_run_b70 N' M = pX9_run_b92 M' ∧ RFin C' M' := by
  induction d with
  | zero =>
    intro N N' k h z U C M r hF hU hz hUF hd hN' hN
    obtain ⟨m, rfl⟩ : ∃ n, N = n + 1 := ⟨N - 1, by omega⟩
    obtain ⟨m', rfl⟩ : ∃ n, N' = n + 1 := ⟨N' - 1, by omega⟩
    obtain rfl : U = F := by omega
    have c7 : C 1 7 = M 0 32 := r.1.1.1.s (by decide +kernel)
    have c0 : C 3 0 = M 0 11 := r.1.1.1.s (by decide +kernel)
    obtain ⟨g1, g2, g3, g4, g5, g6⟩ := r.1.1.2.2.2.1
    have fin : RFin (up2 C 1 13 10) (up2 M 0 35 10) := ⟨(r.1.1.1.left (a := 1) (j := 13) (by decide +kernel) (by decide +kernel) _).right (b := 0) (i := 35) (by decide +kernel) (by decide +kernel) _, r.1.1.2.1, Or.inl ⟨g6, rfl, Or.inr (Or.inl rfl)⟩⟩
    rw [pX6_perform_b8, g1, hF, if_neg (nI_nlt hz (by omega)), if_pos g2, c0, if_neg (show ¬ M 0 11 = 0 by rw [g6]; decide), c7, hU, if_neg (nI_nlt (Nat.le_refl _) (by omega)), lt_s', pX9_run_b70, if_neg (show ¬ M 0 11 = 0 by rw [g6]; decide), if_pos g3, show pX9_step M = some (up2 M 0 35 10) from by unfold pX9_step; rw [hU, hF, if_pos rfl]; rfl, bn_s]
    exact ⟨_, _, fin.exitC (by omega) _, fin.exitM (by omega), fin⟩
  | succ d ih =>
    intro N N' k h z U C M r hF hU hz hUF hd hN' hN
    obtain ⟨m, rfl⟩ : ∃ n, N = n + 1 := ⟨N - 1, by omega⟩
    obtain ⟨m', rfl⟩ : ∃ n, N' = n + 1 := ⟨N' - 1, by omega⟩
    have c7 : C 1 7 = M 0 32 := r.1.1.1.s (by decide +kernel)
    have c0 : C 3 0 = M 0 11 := r.1.1.1.s (by decide +kernel)
    obtain ⟨g1, g2, g3, g4, g5, g6⟩ := r.1.1.2.2.2.1
    by_cases full : U = F
    · subst full
      have fin : RFin (up2 C 1 13 10) (up2 M 0 35 10) := ⟨(r.1.1.1.left (a := 1) (j := 13) (by decide +kernel) (by decide +kernel) _).right (b := 0) (i := 35) (by decide +kernel) (by decide +kernel) _, r.1.1.2.1, Or.inl ⟨g6, rfl, Or.inr (Or.inl rfl)⟩⟩
      rw [pX6_perform_b8, g1, hF, if_neg (nI_nlt hz (by omega)), if_pos g2, c0, if_neg (show ¬ M 0 11 = 0 by rw [g6]; decide), c7, hU, if_neg (nI_nlt (Nat.le_refl _) (by omega)), lt_s', pX9_run_b70, if_neg (show ¬ M 0 11 = 0 by rw [g6]; decide), if_pos g3, show pX9_step M = some (up2 M 0 35 10) from by unfold pX9_step; rw [hU, hF, if_pos rfl]; rfl, bn_s]
      exact ⟨_, _, fin.exitC (by omega) _, fin.exitM (by omega), fin⟩
    · have ne : ¬ M 0 32 = M 0 31 := by
        rw [hU, hF]
        exact fun q => full (nI_eqI (by omega) (by omega) q)
      obtain ⟨C1, M1, q1, q2, q3⟩ := (step_ok r ne).go'
      obtain ⟨f1, U', u1, u2, u3⟩ := step_used hF hU (by omega) h3 q2
      have cg := cgo_bn (pX6_step C) (fun M2 => pX6_perform_b8 m M2 (nI z + 1))
      rw [q1, bn_s] at cg
      rw [pX6_perform_b8, g1, hF, if_neg (nI_nlt (by omega) (by omega)), if_pos g2, c0, if_neg (show ¬ M 0 11 = 0 by rw [g6]; decide), c7, hU, if_pos (nI_lt (by omega) (by omega)), pX9_run_b70, if_neg (show ¬ M 0 11 = 0 by rw [g6]; decide), if_pos g3, q2, bn_s]
      rcases q3 with ⟨k', h', r'⟩ | fin
      · obtain ⟨C2, M2, a1, a2, a3⟩ := ih m m' k' h' (z + 1) U' C1 M1 r' f1 u1 (by omega) u3 (by omega) (by omega) (by omega)
        rw [← nI_1] at a1
        exact ⟨C2, M2, cg.trans a1, a2, a3⟩
      · exact ⟨C1, M1, cg.trans (fin.exitC (by omega) _), fin.exitM (by omega), fin⟩
-- the end
theorem gd_map {α β : Type} (b : Bool) (x : Option α) (f : α → β) : (gd b x).map f = gd b (x.map f) := by
  unfold gd
  by_cases h : b = true
  · rw [if_pos h, if_pos h]
  · rw [if_neg h, if_neg h]; rfl
theorem undo_c (v : Int32) (N : Nat) : ∀ (C : St) (x : Int32), pX7_undo_b16 N (up2 C 22 1 v) x = (pX7_undo_b16 N C x).map fun p => (p.1, up2 p.2 22 1 v) := by
  induction N with
  | zero => intro C x; rfl
  | succ N ih =>
    intro C x
    rw [pX7_undo_b16, pX7_undo_b16]
    by_cases h : x < 0
    · rw [if_pos h, if_pos h]
      simp only [lt_s', Option.map_some]
      rw [up2_row C 22 2 1 v (by decide), up2_comm (a := 22) (b := 2) C _ _ (Or.inl (by decide)), up2_row (up2 C 2 4 (C 2 13)) 22 2 1 v (by decide), up2_comm (a := 22) (b := 2) _ _ _ (Or.inl (by decide)), up2_comm (a := 22) (b := 2) _ _ _ (Or.inl (by decide))]
    · rw [if_neg h, if_neg h, lt_s', lt_s', up2_row C 22 56 1 v (by decide), up2_row C 22 57 1 v (by decide), up2_comm (a := 22) (b := 55) C _ _ (Or.inl (by decide)), ih, gd_map, gd_map, gd_map]
theorem undo_c' (C : St) (v : Int32) : pX7_undo (up2 C 22 1 v) = (pX7_undo C).map fun p => (p.1, up2 p.2 22 1 v) := by
  unfold pX7_undo
  rw [up2_row C 22 2 1 v (by decide), undo_c]
  by_cases h : C 2 5 = 0
  · rw [if_pos h, if_pos h]; rfl
  · rw [if_neg h, if_neg h]
theorem INV.cmd {M : St} (h : INV M) : INV (up2 M 0 21 0) := ⟨h.1, h.2.1, h.2.2.1, ⟨0, by decide, rfl⟩, h.2.2.2.2⟩
theorem INV.rep {M : St} (h : INV M) : INV (up2 M 0 23 0) := ⟨h.1, h.2.1, h.2.2.1, h.2.2.2.1, ⟨0, by decide, rfl⟩, h.2.2.2.2.2⟩
theorem INV.op {M : St} (h : INV M) : M 0 13 = 0 ∨ M 0 13 = 1 := by
  obtain ⟨n, c, -, -, -, -, -, -, h | ⟨h, -⟩⟩ := h.2.2.1
  · exact Or.inl h
  · exact Or.inr h
theorem end_ok {C M : St} (h : RFin C M) : ∃ r C' M', pX6_perform_b82 C = some (r, C') ∧ pX9_run_b92 M = some (r, M') ∧ RE C' M' ∧ INV M' := by
  obtain ⟨hre, hinv, hc⟩ := h
  have c0 : C 3 0 = M 0 11 := hre.s (by decide +kernel)
  have c5 : C 2 5 = M 0 13 := hre.s (by decide +kernel)
  have c33 : C 1 5 = M 0 33 := hre.s (by decide +kernel)
  have c34 : C 1 6 = M 0 34 := hre.s (by decide +kernel)
  rw [show pX6_perform_b82 C = (if C 3 0 = 0 then some (-2, up2 (up2 (up2 C 1 13 (-2)) 24 1 0) 22 1 0) else bn2 (pX7_undo C) fun r1 M4 => some (M4 1 13, up2 M4 22 1 0)) from rfl, show pX9_run_b92 M = (if M 0 11 = 0 then some (-2, up2 (up2 (up2 (up2 M 0 21 0) 0 23 0) 0 34 0) 0 33 0) else if M 0 13 = 0 then some (M 0 35, up2 M 0 21 0) else bn (pX9_undoAll (up2 M 0 21 0)) fun M2 => some (M2 0 35, M2)) from rfl, c0]
  rcases hc with ⟨p1, p2, p3⟩ | ⟨p1, p2, p3⟩
  · have n0 : ¬ M 0 11 = 0 := by rw [p1]; decide
    rw [if_neg n0, if_neg n0]
    have hre1 : RE (up2 C 22 1 0) (up2 M 0 21 0) := hre.both (by decide +kernel) _
    by_cases o : M 0 13 = 0
    · rw [if_pos o, show pX7_undo C = some (0, C) from by unfold pX7_undo; rw [c5, if_pos o], bn2_s]
      exact ⟨M 0 35, _, _, by rw [p2], rfl, hre1, hinv.cmd⟩
    · rw [if_neg o]
      obtain ⟨C', M', q1, q2, q3, q4, q5, -, -, q8, -⟩ := undo_ok hre1 hinv.cmd (hinv.op.resolve_left o)
      rw [undo_c'] at q1
      rw [q2, bn_s]
      cases hD : pX7_undo C with
      | none => rw [hD] at q1; cases q1
      | some y =>
        obtain ⟨r, D⟩ := y
        rw [hD] at q1
        simp only [Option.map_some, Option.some.injEq, Prod.mk.injEq] at q1
        have e13 : D 1 13 = M 0 35 := by
          rw [show D 1 13 = (up2 D 22 1 0) 1 13 from rfl, q1.2, q5.2]; exact p2
        rw [bn2_s, q1.2, e13]
        refine ⟨M 0 35, C', M', rfl, ?_, q3, q4⟩
        rw [q8 35 (by decide) (by decide) (by decide)]; rfl
  · rw [if_pos p1, if_pos p1]
    have z34 : (up2 (up2 M 0 21 0) 0 23 0) 0 34 = 0 := c34.symm.trans p3
    have z33 : (up2 (up2 M 0 21 0) 0 23 0) 0 33 = 0 := c33.symm.trans p2
    rw [up2_same' z34, up2_same' z33]
    refine ⟨-2, _, _, rfl, rfl, ?_, hinv.cmd.rep⟩
    have := ((hre.left (a := 1) (j := 13) (by decide +kernel) (by decide +kernel) (-2)).both (a := 24) (j := 1) (b := 0) (i := 23) (by decide +kernel) 0).both (a := 22) (j := 1) (b := 0) (i := 21) (by decide +kernel) 0
    rw [up2_comm (a := 0) (b := 0) (j := 23) (i := 21) M _ _ (Or.inr (by decide))] at this
    exact this
-- its begin
def stC0 (C : St) (x : Int32) : St := up2 (up2 (up2 (up2 (up2 (up2 (up2 C 1 12 x) 1 7 0) 1 13 1) 1 5 0) 1 6 0) 24 1 0) 1 9 0
def stM4 (M : St) : St := up2 (up2 (up2 (up2 M 0 23 0) 0 32 0) 0 33 0) 0 34 0
def stM7 (M : St) (x : Int32) : St := up2 (up2 (up2 (stM4 M) 0 31 x) 0 24 0) 0 35 (-1)
theorem RE.kc0 {C M : St} (h : RE C M) (x : Int32) : RE (stC0 C x) (stM4 M) := by
  have := ((((((h.left (a := 1) (j := 12) (by decide +kernel) (by decide +kernel) x).both (a := 1) (j := 7) (b := 0) (i := 32) (by decide +kernel) 0).left (a := 1) (j := 13) (by decide +kernel) (by decide +kernel) 1).both (a := 1) (j := 5) (b := 0) (i := 33) (by decide +kernel) 0).both (a := 1) (j := 6) (b := 0) (i := 34) (by decide +kernel) 0).both (a := 24) (j := 1) (b := 0) (i := 23) (by decide +kernel) 0).left (a := 1) (j := 9) (by decide +kernel) (by decide +kernel) 0
  unfold stM4
  rw [up2_comm (a := 0) (b := 0) (j := 23) (i := 32) M _ _ (Or.inr (by decide)), up2_comm (a := 0) (b := 0) (j := 23) (i := 33) _ _ _ (Or.inr (by decide)), up2_comm (a := 0) (b := 0) (j := 23) (i := 34) _ _ _ (Or.inr (by decide))]
  exact this
theorem RE.kc7 {C M : St} (h : RE C M) (x : Int32) : RE (stC0 C x) (stM7 M x) :=
  (((h.kc0 x).right (b := 0) (i := 31) (by decide +kernel) (by decide +kernel) x).right (b := 0) (i := 24) (by decide +kernel) (by decide +kernel) 0).right (b := 0) (i := 35) (by decide +kernel) (by decide +kernel) (-1)
theorem INV.km4 {M : St} (h : INV M) : INV (stM4 M) := h.rep
theorem isM (x : Int32) : (pX8_isMethod x = some 0 ∧ pX9_isIn x 0 15 = some 0) ∨ ∃ m, m < 16 ∧ x = nI m ∧ pX8_isMethod x = some 1 ∧ pX9_isIn x 0 15 = some 1 := by
  unfold pX8_isMethod pX9_isIn
  by_cases h : x < 0
  · exact Or.inl ⟨by rw [if_pos h], by rw [if_pos h]⟩
  · obtain ⟨m, hm, rfl⟩ := nI_of h
    rw [if_neg h, if_neg h]
    by_cases q : 16 ≤ m
    · exact Or.inl ⟨by rw [if_pos (show (16 : Int32) ≤ nI m from nI_le (a := 16) q hm)], by rw [if_pos (show (15 : Int32) < nI m from nI_lt (a := 15) q hm)]⟩
    · exact Or.inr ⟨m, by omega, rfl, by rw [if_neg (show ¬ (16 : Int32) ≤ nI m from nI_ge (b := 16) (by omega) (by decide))], by rw [if_neg (show ¬ (15 : Int32) < nI m from nI_nlt (a := 15) (by omega) (by decide))]⟩
theorem isF (x : Int32) : ((x < 1 ∨ ¬ x ≤ 3000) ∧ pX9_isIn x 1 3000 = some 0) ∨ ∃ F, 1 ≤ F ∧ F ≤ 3000 ∧ x = nI F ∧ pX9_isIn x 1 3000 = some 1 := by
  unfold pX9_isIn
  by_cases h : x < 1
  · exact Or.inl ⟨Or.inl h, by rw [if_pos h]⟩
  · have h0 : ¬ x < 0 := fun q => h (by
      rw [Int32.lt_iff_toInt_lt] at q ⊢
      have e0 : (0 : Int32).toInt = 0 := rfl
      have e1 : (1 : Int32).toInt = 1 := rfl
      omega)
    obtain ⟨F, hF, rfl⟩ := nI_of h0
    rw [if_neg h]
    have f1 : 1 ≤ F := by
      rcases Nat.lt_or_ge 0 F with q | q
      · exact q
      · exact absurd (show nI F < 1 by rw [show F = 0 by omega]; decide) h
    by_cases q : F ≤ 3000
    · exact Or.inr ⟨F, f1, q, rfl, by rw [if_neg (show ¬ (3000 : Int32) < nI F from nI_nlt (a := 3000) q (by decide))]⟩
    · exact Or.inl ⟨Or.inr (show ¬ nI F ≤ (3000 : Int32) from nI_ge (a := 3000) (by omega) hF), by rw [if_pos (show (3000 : Int32) < nI F from nI_lt (a := 3000) (by omega) hF)]⟩
theorem run_ok {C M : St} (h : RE C M) (hi : INV M) (x y : Int32) : ∃ r C' M', pX8_run C x y = some (r, C') ∧ pX9_run M x y = some (r, M') ∧ RE C' M' ∧ INV M' := by
  unfold pX8_run pX9_run
  rcases isM x with ⟨a1, a2⟩ | ⟨m, hm, rfl, a1, a2⟩
  · rw [a1, a2, bn_s, bn_s, if_pos rfl, if_pos rfl]
    exact ⟨-1, C, M, rfl, rfl, h, hi⟩
  rw [a1, a2, bn_s, bn_s, if_neg (show ¬ (1 : Int32) = 0 by decide), if_neg (show ¬ (1 : Int32) = 0 by decide)]
  rcases isF y with ⟨b1, b2⟩ | ⟨F, f1, f2, rfl, b2⟩
  · rw [b2, bn_s, if_pos rfl]
    refine ⟨-1, C, M, ?_, rfl, h, hi⟩
    by_cases q : y < 1
    · rw [if_pos q]
    · rw [if_neg q, if_neg (b1.resolve_left q)]
  rw [b2, bn_s, if_neg (show ¬ (1 : Int32) = 0 by decide), if_neg (show ¬ nI F < 1 from nI_nlt (a := F) (b := 1) f1 (by omega)), if_pos (show nI F ≤ 3000 from nI_le (b := 3000) f2 (by decide)), ic_nI _ hm (by decide), bn2_eta, lt_s', lt_s', lt_s', lt_s']
  unfold pX6_perform pX6_begin
  simp only [lt_s']
  have c9 : (stC0 C (nI F)) 1 9 = nI 0 := rfl
  rw [show up2 (up2 (up2 (up2 (up2 (up2 (up2 C 1 12 (nI F)) 1 7 0) 1 13 1) 1 5 0) 1 6 0) 24 1 0) 1 9 0 = stC0 C (nI F) from rfl, center c9 (by decide) hm, bn_s, bn_s, show up2 (up2 (up2 (up2 M 0 23 0) 0 32 0) 0 33 0) 0 34 0 = stM4 M from rfl, show stM4 M 0 11 = M 0 11 from rfl]
  have fit : ∀ C1 M1, RFin C1 M1 → ∃ r C' M', pX6_perform_b82 C1 = some (r, C') ∧ pX9_run_b92 M1 = some (r, M') ∧ RE C' M' ∧ INV M' := fun C1 M1 q => end_ok q
  by_cases p0 : M 0 11 = 0
  · rw [if_pos p0]
    have fin : RFin (ecl (stC0 C (nI F)) 0 m) (stM4 M) := by
      refine ⟨(h.kc0 (nI F)).rows' (fun a ha h1 => ecl_row h1 (by omega) (by omega)) (fun j hj => ?_) (fun _ _ _ => rfl) (fun _ _ => rfl), hi.km4, Or.inr ⟨p0, ?_, ?_⟩⟩
      · rw [ecl_1, up2_cell _ _ _ _ _ _ (Or.inr (by omega)), up2_cell _ _ _ _ _ _ (Or.inr (by omega))]
      · rw [ecl_1]; rfl
      · rw [ecl_1]; rfl
    rw [fin.exitC (by unfold LF; omega)]
    exact fit _ _ fin
  · rw [if_neg p0]
    have p1 : M 0 11 = 1 := hi.2.2.2.2.2.resolve_left p0
    have hb : BASE (stC0 C (nI F)) (stM7 M (nI F)) 0 := ⟨h.kc7 (nI F), hi.km4, ⟨c9, rfl⟩, ⟨rfl, rfl, rfl, rfl, rfl, p1⟩, fun i hi => absurd hi (Nat.not_lt_zero _), fun i hi => absurd hi (Nat.not_lt_zero _)⟩
    have n24 : (stM7 M (nI F)) 0 24 = nI 0 := rfl
    rw [show up2 (up2 (up2 (stM4 M) 0 31 (nI F)) 0 24 0) 0 35 (-1) = stM7 M (nI F) from rfl, menter n24 (by decide) hm, bn_s]
    have r := entr hb (by decide) hm
    obtain ⟨C1, M1, q1, q2, q3⟩ := runL F f2 F LF LF 0 0 0 0 _ _ r (by rw [eml_0 (by decide)]; rfl) (by rw [eml_0 (by decide)]; rfl) (Nat.le_refl _) (Nat.zero_le _) (by omega) (by unfold LF; omega) (by unfold LF; omega)
    rw [show (0 : Int32) = nI 0 from rfl, q1, q2]
    exact fit _ _ q3
