/-! THE START: the class's world in its layout -/
theorem EB_S {G : zG} {Q : Nat → Nat} {i j k : Nat} (h1 : 4 ≤ k) (h2 : k < 13) : EB G Q i j k = eS G (fun x => Q (4 + x)) (k - 4) (SS 4 (k - 4)) := by
  unfold EB
  rw [if_neg (by omega), if_neg (by omega), if_neg (by omega), if_pos h2]
theorem SS_1 (i : Nat) : SS i 1 0 = 1 ∧ SS i 1 1 = -1 := by
  induction i with
  | zero => exact ⟨rfl, rfl⟩
  | succ i ih =>
    have s : SS (i + 1) 1 = SS i 1 := by
      rw [SS, up2_row _ _ _ _ _ (by decide), zf_row _ _ _ _ _ (by decide)]
      rfl
    rw [s]
    exact ih
set_option maxHeartbeats 4000000 in
set_option maxRecDepth 100000 in
theorem init_C {G : zG} {A : Nat → Prop} {Q : Nat → Nat} {H : Heap} (hP : CW G.1 A 58 Q (fun k => if k = 0 then .inr (6, [.ref (Q 1)]) else EB G Q 16 8 k) H) : zP G.1 58 (fun k => Q (cr k)) (eC G (fun k => Q (cr k))) (C0g (SS 4)) H ∧ zQD A 58 (fun k => Q (cr k)) := by
  have hq := zQD_of hP.2
  have w0 : va_at G.1 vwCl (Q 0, .inr (6, [.ref (Q 1)])) H := va_Pk hP.1 (k := 0) (by decide)
  have w : ∀ x, 0 < x → x < 58 → va_at G.1 vwCl (Q x, EB G Q 16 8 x) H := fun x h0 hx => by
    have := va_Pk hP.1 hx
    rw [if_neg (by omega)] at this
    exact this
  have ws : ∀ x, 4 ≤ x → x < 13 → va_at G.1 vwCl (Q x, eS G (fun y => Q (4 + y)) (x - 4) (SS 4 (x - 4))) H := fun x h1 h2 => by
    have := w x (by omega) (by omega)
    rw [EB_S h1 h2] at this
    exact this
  have w' : ∀ x, 0 < x → (x < 4 ∨ 13 ≤ x) → x < 58 → va_at G.1 vwCl (Q x, if x = 1 then .inr (4, [.ref (Q 2), .ref (Q 3), .ref (Q 4), .ref (Q 13), .ref (Q 15), .int 0, .int 0, .int 0, .ref (Q 17), .int 0, .null, .int 0, .int 0, .int 0])
  else if x = 2 then .inl (G.2.1.1, 512, .inl (fun _ => 0))
  else if x = 3 then .inl (G.2.1.2.2.1, 16, .inr (.inr (.inr (.inr (fun x => if x < 16 then some (Q (18 + x)) else none)))))
  else if x = 13 then .inr (0, [.ref (Q 14), .int 0])
  else if x = 14 then .inl (G.2.1.1, 32, .inl (fun _ => 0))
  else if x = 15 then .inr (0, [.ref (Q 16), .int 0])
  else if x = 16 then .inl (G.2.1.1, 32, .inl (fun _ => 0))
  else if x = 17 then .inl (G.2.1.2.2.2, 8, .inr (.inr (.inr (.inr (fun x => if x < 8 then some (Q (34 + 3 * x)) else none)))))
  else if x < 34 then .inr (2, [.int 0, .int 0, .int 0])
  else if (x - 34) % 3 = 0 then .inr (1, [.ref (Q (x + 1)), .ref (Q (x + 2)), .int 0, .int 0, .int 0, .int 0])
  else if (x - 34) % 3 = 1 then .inl (G.2.1.1, 8, .inl (fun _ => 0)) else .inl (G.2.1.1, 16, .inl (fun _ => 0))) H := fun x h0 hx h58 => by
    have := w x h0 h58
    unfold EB at this
    by_cases a1 : x = 1
    · rw [if_pos a1] at this ⊢; exact this
    by_cases a2 : x = 2
    · rw [if_neg a1, if_pos a2] at this ⊢; exact this
    by_cases a3 : x = 3
    · rw [if_neg a1, if_neg a2, if_pos a3] at this ⊢; exact this
    rw [if_neg a1, if_neg a2, if_neg a3, if_neg (by omega)] at this
    rw [if_neg a1, if_neg a2, if_neg a3]
    exact this
  clear w hP
  refine ⟨va_Pz (fun k hk => ?_), fun i j hi hj e => cr_inj i (List.mem_range.mpr hi) j (List.mem_range.mpr hj) (hq.1 _ _ (cr_lt i (List.mem_range.mpr hi)) (cr_lt j (List.mem_range.mpr hj)) e), fun i hi => hq.2 _ (cr_lt i (List.mem_range.mpr hi))⟩
  have w3 : va_at G.1 vwCl (Q 5, .inr (3, [.int 1, .int (-1)])) H := by
    have := ws 5 (by decide) (by decide)
    rw [show 5 - 4 = 1 from rfl, eS_1, (SS_1 4).1, (SS_1 4).2] at this
    exact this
  have h51 : va_at G.1 vwCl (Q 6, .inl (G.2.1.1, 41, .inl (SS 4 2))) H := by
    have := ws 6 (by decide) (by decide)
    rw [show 6 - 4 = 2 from rfl] at this
    rw [show ∀ (q : Nat → Nat) (r : Nat → Int32), eS G q 2 r = .inl (G.2.1.1, 41, .inl r) from fun _ _ => rfl] at this
    exact this
  have h52 : va_at G.1 vwCl (Q 7, .inl (G.2.1.1, 41, .inl (SS 4 3))) H := by
    have := ws 7 (by decide) (by decide)
    rw [show 7 - 4 = 3 from rfl] at this
    rw [show ∀ (q : Nat → Nat) (r : Nat → Int32), eS G q 3 r = .inl (G.2.1.1, 41, .inl r) from fun _ _ => rfl] at this
    exact this
  have h53 : va_at G.1 vwCl (Q 8, .inl (G.2.1.1, 41, .inl (SS 4 4))) H := by
    have := ws 8 (by decide) (by decide)
    rw [show 8 - 4 = 4 from rfl] at this
    rw [show ∀ (q : Nat → Nat) (r : Nat → Int32), eS G q 4 r = .inl (G.2.1.1, 41, .inl r) from fun _ _ => rfl] at this
    exact this
  have h54 : va_at G.1 vwCl (Q 9, .inl (G.2.1.1, 41, .inl (SS 4 5))) H := by
    have := ws 9 (by decide) (by decide)
    rw [show 9 - 4 = 5 from rfl] at this
    rw [show ∀ (q : Nat → Nat) (r : Nat → Int32), eS G q 5 r = .inl (G.2.1.1, 41, .inl r) from fun _ _ => rfl] at this
    exact this
  have h55 : va_at G.1 vwCl (Q 10, .inl (G.2.1.1, 240, .inl (SS 4 6))) H := by
    have := ws 10 (by decide) (by decide)
    rw [show 10 - 4 = 6 from rfl] at this
    rw [show ∀ (q : Nat → Nat) (r : Nat → Int32), eS G q 6 r = .inl (G.2.1.1, 240, .inl r) from fun _ _ => rfl] at this
    exact this
  have h56 : va_at G.1 vwCl (Q 11, .inl (G.2.1.1, 20, .inl (SS 4 7))) H := by
    have := ws 11 (by decide) (by decide)
    rw [show 11 - 4 = 7 from rfl] at this
    rw [show ∀ (q : Nat → Nat) (r : Nat → Int32), eS G q 7 r = .inl (G.2.1.1, 20, .inl r) from fun _ _ => rfl] at this
    exact this
  have h57 : va_at G.1 vwCl (Q 12, .inl (G.2.1.1, 20, .inl (SS 4 8))) H := by
    have := ws 12 (by decide) (by decide)
    rw [show 12 - 4 = 8 from rfl] at this
    rw [show ∀ (q : Nat → Nat) (r : Nat → Int32), eS G q 8 r = .inl (G.2.1.1, 20, .inl r) from fun _ _ => rfl] at this
    exact this
  have h2 : va_at G.1 vwCl (Q 4, .inr (5, [.ref (Q 5), .ref (Q 6), .ref (Q 7), .ref (Q 8), .int (SS 4 0 4), .int (SS 4 0 5), .ref (Q 9), .ref (Q 10), .int (SS 4 0 8), .ref (Q 11), .ref (Q 12), .int (SS 4 0 11), .int (SS 4 0 12), .int (SS 4 0 13), .int (SS 4 0 14)])) H := by
    have := ws 4 (by decide) (by decide)
    rw [show 4 - 4 = 0 from rfl, eS_0] at this
    exact this
  clear ws
  generalize SS 4 = S at *
  obtain ⟨r4, r51, r52, r53, r54, r55, r56, r57, r23, r25⟩ := C0g_r S
  match k, hk with
  | 0, _ => exact w0
  | 1, _ => exact w' 1 (by decide) (by decide) (by decide)
  | 2, _ =>
    show va_at G.1 vwCl (Q 4, .inr (5, [.ref (Q 5), .ref (Q 6), .ref (Q 7), .ref (Q 8), .int (C0g S 2 4), .int (C0g S 2 5), .ref (Q 9), .ref (Q 10), .int (C0g S 2 8), .ref (Q 11), .ref (Q 12), .int (C0g S 2 11), .int (C0g S 2 12), .int (C0g S 2 13), .int (C0g S 2 14)])) H
    rw [C0g_2, C0g_2, C0g_2, C0g_2, C0g_2, C0g_2, C0g_2]
    exact h2
  | 3, _ => exact w3
  | 4, _ => exact w' 2 (by decide) (by decide) (by decide)
  | 5, _ => exact refs_eq (g := fun x => if x < 16 then some (Q (18 + x)) else none) (g' := fun x => some (Q (cr (6 + x)))) (w' 3 (by decide) (by decide) (by decide)) (fun j hj => by rw [if_pos hj]; unfold cr; rw [if_neg (by omega), if_neg (by omega), if_neg (by omega), if_neg (by omega), if_neg (by omega), if_neg (by omega), if_pos (by omega), show 6 + j + 12 = 18 + j by omega])
  | 6, _ => exact w' 18 (by decide) (by decide) (by decide)
  | 7, _ => exact w' 19 (by decide) (by decide) (by decide)
  | 8, _ => exact w' 20 (by decide) (by decide) (by decide)
  | 9, _ => exact w' 21 (by decide) (by decide) (by decide)
  | 10, _ => exact w' 22 (by decide) (by decide) (by decide)
  | 11, _ => exact w' 23 (by decide) (by decide) (by decide)
  | 12, _ => exact w' 24 (by decide) (by decide) (by decide)
  | 13, _ => exact w' 25 (by decide) (by decide) (by decide)
  | 14, _ => exact w' 26 (by decide) (by decide) (by decide)
  | 15, _ => exact w' 27 (by decide) (by decide) (by decide)
  | 16, _ => exact w' 28 (by decide) (by decide) (by decide)
  | 17, _ => exact w' 29 (by decide) (by decide) (by decide)
  | 18, _ => exact w' 30 (by decide) (by decide) (by decide)
  | 19, _ => exact w' 31 (by decide) (by decide) (by decide)
  | 20, _ => exact w' 32 (by decide) (by decide) (by decide)
  | 21, _ => exact w' 33 (by decide) (by decide) (by decide)
  | 22, _ => exact w' 13 (by decide) (by decide) (by decide)
  | 23, _ => exact w' 14 (by decide) (by decide) (by decide)
  | 24, _ => exact w' 15 (by decide) (by decide) (by decide)
  | 25, _ => exact w' 16 (by decide) (by decide) (by decide)
  | 26, _ => exact refs_eq (g := fun x => if x < 8 then some (Q (34 + 3 * x)) else none) (g' := fun x => some (Q (cr (27 + x)))) (w' 17 (by decide) (by decide) (by decide)) (fun j hj => by rw [if_pos hj]; unfold cr; rw [if_neg (by omega), if_neg (by omega), if_neg (by omega), if_neg (by omega), if_neg (by omega), if_neg (by omega), if_neg (by omega), if_neg (by omega), if_pos (by omega), show 27 + j - 27 = j by omega])
  | 27, _ => exact w' 34 (by decide) (by decide) (by decide)
  | 28, _ => exact w' 37 (by decide) (by decide) (by decide)
  | 29, _ => exact w' 40 (by decide) (by decide) (by decide)
  | 30, _ => exact w' 43 (by decide) (by decide) (by decide)
  | 31, _ => exact w' 46 (by decide) (by decide) (by decide)
  | 32, _ => exact w' 49 (by decide) (by decide) (by decide)
  | 33, _ => exact w' 52 (by decide) (by decide) (by decide)
  | 34, _ => exact w' 55 (by decide) (by decide) (by decide)
  | 35, _ => exact w' 35 (by decide) (by decide) (by decide)
  | 36, _ => exact w' 38 (by decide) (by decide) (by decide)
  | 37, _ => exact w' 41 (by decide) (by decide) (by decide)
  | 38, _ => exact w' 44 (by decide) (by decide) (by decide)
  | 39, _ => exact w' 47 (by decide) (by decide) (by decide)
  | 40, _ => exact w' 50 (by decide) (by decide) (by decide)
  | 41, _ => exact w' 53 (by decide) (by decide) (by decide)
  | 42, _ => exact w' 56 (by decide) (by decide) (by decide)
  | 43, _ => exact w' 36 (by decide) (by decide) (by decide)
  | 44, _ => exact w' 39 (by decide) (by decide) (by decide)
  | 45, _ => exact w' 42 (by decide) (by decide) (by decide)
  | 46, _ => exact w' 45 (by decide) (by decide) (by decide)
  | 47, _ => exact w' 48 (by decide) (by decide) (by decide)
  | 48, _ => exact w' 51 (by decide) (by decide) (by decide)
  | 49, _ => exact w' 54 (by decide) (by decide) (by decide)
  | 50, _ => exact w' 57 (by decide) (by decide) (by decide)
  | 51, _ =>
    show va_at G.1 vwCl (Q 6, .inl (G.2.1.1, 41, .inl (C0g S 51))) H
    rw [r51]
    exact h51
  | 52, _ =>
    show va_at G.1 vwCl (Q 7, .inl (G.2.1.1, 41, .inl (C0g S 52))) H
    rw [r52]
    exact h52
  | 53, _ =>
    show va_at G.1 vwCl (Q 8, .inl (G.2.1.1, 41, .inl (C0g S 53))) H
    rw [r53]
    exact h53
  | 54, _ =>
    show va_at G.1 vwCl (Q 9, .inl (G.2.1.1, 41, .inl (C0g S 54))) H
    rw [r54]
    exact h54
  | 55, _ =>
    show va_at G.1 vwCl (Q 10, .inl (G.2.1.1, 240, .inl (C0g S 55))) H
    rw [r55]
    exact h55
  | 56, _ =>
    show va_at G.1 vwCl (Q 11, .inl (G.2.1.1, 20, .inl (C0g S 56))) H
    rw [r56]
    exact h56
  | 57, _ =>
    show va_at G.1 vwCl (Q 12, .inl (G.2.1.1, 20, .inl (C0g S 57))) H
    rw [r57]
    exact h57
  | n + 58, h => exact absurd h (by omega)
