/-! THE LAYOUTS: which cell is what. -/
def frq (q : Nat → Nat) (x : Int32) : Option Nat := if inb x 8 = true then some (q (27 + ix x)) else none
/-- the class: 0 the card, 1 its processor, 2 its store, 3 its power, 4 code, 5 the methods (6 .. 21), 22 command (23 its bytes), 24 reply (25), 26 the frames (27 .. 34; locals 35 .. 42, stacks 43 .. 50), 51 .. 57 the store's rows -/
def eC (G : zG) (q : Nat → Nat) : zEnt := fun i r =>
  if i = 0 then .inr (6, [.ref (q 1)])
  else if i = 1 then .inr (4, [.ref (q 4), .ref (q 5), .ref (q 2), .ref (q 22), .ref (q 24), .int (r 5), .int (r 6), .int (r 7), .ref (q 26), .int (r 9), va_rf (frq q (r 10)), .int (r 11), .int (r 12), .int (r 13)])
  else if i = 2 then .inr (5, [.ref (q 3), .ref (q 51), .ref (q 52), .ref (q 53), .int (r 4), .int (r 5), .ref (q 54), .ref (q 55), .int (r 8), .ref (q 56), .ref (q 57), .int (r 11), .int (r 12), .int (r 13), .int (r 14)])
  else if i = 3 then .inr (3, [.int (r 0), .int (r 1)])
  else if i = 4 then .inl (G.2.1.1, 512, .inl r)
  else if i = 5 then .inl (G.2.1.2.2.1, 16, .inr (.inr (.inr (.inr (fun k => some (q (6 + k)))))))
  else if i < 22 then .inr (2, [.int (r 0), .int (r 1), .int (r 2)])
  else if i = 22 then .inr (0, [.ref (q (23)), .int (r 1)])
  else if i = 24 then .inr (0, [.ref (q (25)), .int (r 1)])
  else if i < 26 then .inl (G.2.1.1, 32, .inl r)
  else if i = 26 then .inl (G.2.1.2.2.2, 8, .inr (.inr (.inr (.inr (fun k => some (q (27 + k)))))))
  else if i < 35 then .inr (1, [.ref (q (i + 8)), .ref (q (i + 16)), .int (r 2), .int (r 3), .int (r 4), .int (r 5)])
  else if i < 43 then .inl (G.2.1.1, 8, .inl r)
  else if i < 51 then .inl (G.2.1.1, 16, .inl r)
  else if i < 55 then .inl (G.2.1.1, 41, .inl r)
  else if i = 55 then .inl (G.2.1.1, 240, .inl r)
  else .inl (G.2.1.1, 20, .inl r)
theorem eC_0 (G : zG) (q : Nat → Nat) (r : Nat → Int32) : eC G q 0 r = .inr (6, [.ref (q 1)]) := rfl
theorem eC_1 (G : zG) (q : Nat → Nat) (r : Nat → Int32) : eC G q 1 r = .inr (4, [.ref (q 4), .ref (q 5), .ref (q 2), .ref (q 22), .ref (q 24), .int (r 5), .int (r 6), .int (r 7), .ref (q 26), .int (r 9), va_rf (frq q (r 10)), .int (r 11), .int (r 12), .int (r 13)]) := rfl
theorem eC_2 (G : zG) (q : Nat → Nat) (r : Nat → Int32) : eC G q 2 r = .inr (5, [.ref (q 3), .ref (q 51), .ref (q 52), .ref (q 53), .int (r 4), .int (r 5), .ref (q 54), .ref (q 55), .int (r 8), .ref (q 56), .ref (q 57), .int (r 11), .int (r 12), .int (r 13), .int (r 14)]) := rfl
theorem eC_3 (G : zG) (q : Nat → Nat) (r : Nat → Int32) : eC G q 3 r = .inr (3, [.int (r 0), .int (r 1)]) := rfl
theorem eC_M (G : zG) (q : Nat → Nat) {k : Nat} (hk : k < 16) (r : Nat → Int32) : eC G q (6 + k) r = .inr (2, [.int (r 0), .int (r 1), .int (r 2)]) := by
  unfold eC
  rw [if_neg (by omega), if_neg (by omega), if_neg (by omega), if_neg (by omega), if_neg (by omega), if_neg (by omega), if_pos (by omega)]
theorem eC_B (G : zG) (q : Nat → Nat) {k : Nat} (hk : k = 22 ∨ k = 24) (r : Nat → Int32) : eC G q k r = .inr (0, [.ref (q (k + 1)), .int (r 1)]) := by
  rcases hk with h | h <;> subst h <;> rfl
theorem eC_F (G : zG) (q : Nat → Nat) {k : Nat} (hk : k < 8) (r : Nat → Int32) : eC G q (27 + k) r = .inr (1, [.ref (q (35 + k)), .ref (q (43 + k)), .int (r 2), .int (r 3), .int (r 4), .int (r 5)]) := by
  unfold eC
  rw [if_neg (by omega), if_neg (by omega), if_neg (by omega), if_neg (by omega), if_neg (by omega), if_neg (by omega), if_neg (by omega), if_neg (by omega), if_neg (by omega), if_neg (by omega), if_neg (by omega), if_pos (by omega), show 27 + k + 8 = 35 + k by omega, show 27 + k + 16 = 43 + k by omega]
theorem arC_4 (G : zG) (q : Nat → Nat) : zAR (eC G q) G.2.1.1 58 4 512 := ⟨by decide, fun _ => rfl⟩
theorem arC_51 (G : zG) (q : Nat → Nat) : zAR (eC G q) G.2.1.1 58 51 41 := ⟨by decide, fun _ => rfl⟩
theorem arC_52 (G : zG) (q : Nat → Nat) : zAR (eC G q) G.2.1.1 58 52 41 := ⟨by decide, fun _ => rfl⟩
theorem arC_53 (G : zG) (q : Nat → Nat) : zAR (eC G q) G.2.1.1 58 53 41 := ⟨by decide, fun _ => rfl⟩
theorem arC_54 (G : zG) (q : Nat → Nat) : zAR (eC G q) G.2.1.1 58 54 41 := ⟨by decide, fun _ => rfl⟩
theorem arC_55 (G : zG) (q : Nat → Nat) : zAR (eC G q) G.2.1.1 58 55 240 := ⟨by decide, fun _ => rfl⟩
theorem arC_56 (G : zG) (q : Nat → Nat) : zAR (eC G q) G.2.1.1 58 56 20 := ⟨by decide, fun _ => rfl⟩
theorem arC_57 (G : zG) (q : Nat → Nat) : zAR (eC G q) G.2.1.1 58 57 20 := ⟨by decide, fun _ => rfl⟩
theorem arC_B (G : zG) (q : Nat → Nat) {k : Nat} (hk : k = 22 ∨ k = 24) : zAR (eC G q) G.2.1.1 58 (k + 1) 32 := ⟨by omega, fun _ => by rcases hk with h | h <;> subst h <;> rfl⟩
theorem arC_l (G : zG) (q : Nat → Nat) {k : Nat} (hk : k < 8) : zAR (eC G q) G.2.1.1 58 (35 + k) 8 := ⟨by omega, fun r => by
  unfold eC
  rw [if_neg (by omega), if_neg (by omega), if_neg (by omega), if_neg (by omega), if_neg (by omega), if_neg (by omega), if_neg (by omega), if_neg (by omega), if_neg (by omega), if_neg (by omega), if_neg (by omega), if_neg (by omega), if_pos (by omega)]⟩
theorem arC_s (G : zG) (q : Nat → Nat) {k : Nat} (hk : k < 8) : zAR (eC G q) G.2.1.1 58 (43 + k) 16 := ⟨by omega, fun r => by
  unfold eC
  rw [if_neg (by omega), if_neg (by omega), if_neg (by omega), if_neg (by omega), if_neg (by omega), if_neg (by omega), if_neg (by omega), if_neg (by omega), if_neg (by omega), if_neg (by omega), if_neg (by omega), if_neg (by omega), if_neg (by omega), if_pos (by omega)]⟩
theorem aqC_M (G : zG) (q : Nat → Nat) : zAQ (eC G q) G.2.1.2.2.1 58 5 16 6 q := ⟨by decide, fun _ => rfl⟩
theorem aqC_F (G : zG) (q : Nat → Nat) : zAQ (eC G q) G.2.1.2.2.2 58 26 8 27 q := ⟨by decide, fun _ => rfl⟩
/-- the reference: 0 itself, 1 .. 20 its rows -/
def eM (G : zG) (q : Nat → Nat) : zEnt := fun i r =>
  if i = 0 then .inr (7, [.ref (q 1), .ref (q 2), .ref (q 3), .ref (q 4), .int (r 4), .ref (q 5), .ref (q 6), .ref (q 7), .ref (q 8), .ref (q 9), .int (r 10), .int (r 11), .int (r 12), .int (r 13), .int (r 14), .int (r 15), .ref (q 10), .ref (q 11), .int (r 18), .int (r 19), .ref (q 12), .int (r 21), .ref (q 13), .int (r 23), .int (r 24), .ref (q 14), .ref (q 15), .ref (q 16), .ref (q 17), .ref (q 18), .ref (q 19), .int (r 31), .int (r 32), .int (r 33), .int (r 34), .int (r 35), .ref (q 20)])
  else if i = 1 then .inl (G.2.1.1, 512, .inl r)
  else if i = 2 then .inl (G.2.1.1, 16, .inl r)
  else if i = 3 then .inl (G.2.1.1, 16, .inl r)
  else if i = 4 then .inl (G.2.1.2.1, 16, .inl r)
  else if i = 5 then .inl (G.2.1.1, 41, .inl r)
  else if i = 6 then .inl (G.2.1.1, 41, .inl r)
  else if i = 7 then .inl (G.2.1.1, 41, .inl r)
  else if i = 8 then .inl (G.2.1.1, 41, .inl r)
  else if i = 9 then .inl (G.2.1.1, 240, .inl r)
  else if i = 10 then .inl (G.2.1.1, 20, .inl r)
  else if i = 11 then .inl (G.2.1.1, 20, .inl r)
  else if i = 12 then .inl (G.2.1.1, 32, .inl r)
  else if i = 13 then .inl (G.2.1.1, 32, .inl r)
  else if i = 14 then .inl (G.2.1.1, 8, .inl r)
  else if i = 15 then .inl (G.2.1.1, 8, .inl r)
  else if i = 16 then .inl (G.2.1.1, 8, .inl r)
  else if i = 17 then .inl (G.2.1.1, 64, .inl r)
  else if i = 18 then .inl (G.2.1.1, 128, .inl r)
  else if i = 19 then .inl (G.2.1.1, 8, .inl r)
  else if i = 20 then .inl (G.2.1.1, 8, .inl r)
  else .inl (G.2.1.1, 0, .inl r)
theorem eM_0 (G : zG) (q : Nat → Nat) (r : Nat → Int32) : eM G q 0 r = .inr (7, [.ref (q 1), .ref (q 2), .ref (q 3), .ref (q 4), .int (r 4), .ref (q 5), .ref (q 6), .ref (q 7), .ref (q 8), .ref (q 9), .int (r 10), .int (r 11), .int (r 12), .int (r 13), .int (r 14), .int (r 15), .ref (q 10), .ref (q 11), .int (r 18), .int (r 19), .ref (q 12), .int (r 21), .ref (q 13), .int (r 23), .int (r 24), .ref (q 14), .ref (q 15), .ref (q 16), .ref (q 17), .ref (q 18), .ref (q 19), .int (r 31), .int (r 32), .int (r 33), .int (r 34), .int (r 35), .ref (q 20)]) := rfl
theorem arM_1 (G : zG) (q : Nat → Nat) : zAR (eM G q) G.2.1.1 21 1 512 := ⟨by decide, fun _ => rfl⟩
theorem arM_2 (G : zG) (q : Nat → Nat) : zAR (eM G q) G.2.1.1 21 2 16 := ⟨by decide, fun _ => rfl⟩
theorem arM_3 (G : zG) (q : Nat → Nat) : zAR (eM G q) G.2.1.1 21 3 16 := ⟨by decide, fun _ => rfl⟩
theorem arM_4 (G : zG) (q : Nat → Nat) : zAZ (eM G q) G.2.1.2.1 21 4 16 := ⟨by decide, fun _ => rfl⟩
theorem arM_5 (G : zG) (q : Nat → Nat) : zAR (eM G q) G.2.1.1 21 5 41 := ⟨by decide, fun _ => rfl⟩
theorem arM_6 (G : zG) (q : Nat → Nat) : zAR (eM G q) G.2.1.1 21 6 41 := ⟨by decide, fun _ => rfl⟩
theorem arM_7 (G : zG) (q : Nat → Nat) : zAR (eM G q) G.2.1.1 21 7 41 := ⟨by decide, fun _ => rfl⟩
theorem arM_8 (G : zG) (q : Nat → Nat) : zAR (eM G q) G.2.1.1 21 8 41 := ⟨by decide, fun _ => rfl⟩
theorem arM_9 (G : zG) (q : Nat → Nat) : zAR (eM G q) G.2.1.1 21 9 240 := ⟨by decide, fun _ => rfl⟩
theorem arM_10 (G : zG) (q : Nat → Nat) : zAR (eM G q) G.2.1.1 21 10 20 := ⟨by decide, fun _ => rfl⟩
theorem arM_11 (G : zG) (q : Nat → Nat) : zAR (eM G q) G.2.1.1 21 11 20 := ⟨by decide, fun _ => rfl⟩
theorem arM_12 (G : zG) (q : Nat → Nat) : zAR (eM G q) G.2.1.1 21 12 32 := ⟨by decide, fun _ => rfl⟩
theorem arM_13 (G : zG) (q : Nat → Nat) : zAR (eM G q) G.2.1.1 21 13 32 := ⟨by decide, fun _ => rfl⟩
theorem arM_14 (G : zG) (q : Nat → Nat) : zAR (eM G q) G.2.1.1 21 14 8 := ⟨by decide, fun _ => rfl⟩
theorem arM_15 (G : zG) (q : Nat → Nat) : zAR (eM G q) G.2.1.1 21 15 8 := ⟨by decide, fun _ => rfl⟩
theorem arM_16 (G : zG) (q : Nat → Nat) : zAR (eM G q) G.2.1.1 21 16 8 := ⟨by decide, fun _ => rfl⟩
theorem arM_17 (G : zG) (q : Nat → Nat) : zAR (eM G q) G.2.1.1 21 17 64 := ⟨by decide, fun _ => rfl⟩
theorem arM_18 (G : zG) (q : Nat → Nat) : zAR (eM G q) G.2.1.1 21 18 128 := ⟨by decide, fun _ => rfl⟩
theorem arM_19 (G : zG) (q : Nat → Nat) : zAR (eM G q) G.2.1.1 21 19 8 := ⟨by decide, fun _ => rfl⟩
theorem arM_20 (G : zG) (q : Nat → Nat) : zAR (eM G q) G.2.1.1 21 20 8 := ⟨by decide, fun _ => rfl⟩
/-- a store alone: 0 itself, 1 its power, 2 .. 8 its rows -/
def eS (G : zG) (q : Nat → Nat) : zEnt := fun i r =>
  if i = 0 then .inr (5, [.ref (q 1), .ref (q 2), .ref (q 3), .ref (q 4), .int (r 4), .int (r 5), .ref (q 5), .ref (q 6), .int (r 8), .ref (q 7), .ref (q 8), .int (r 11), .int (r 12), .int (r 13), .int (r 14)])
  else if i = 1 then .inr (3, [.int (r 0), .int (r 1)])
  else if i < 6 then .inl (G.2.1.1, 41, .inl r)
  else if i = 6 then .inl (G.2.1.1, 240, .inl r)
  else .inl (G.2.1.1, 20, .inl r)
theorem eS_0 (G : zG) (q : Nat → Nat) (r : Nat → Int32) : eS G q 0 r = .inr (5, [.ref (q 1), .ref (q 2), .ref (q 3), .ref (q 4), .int (r 4), .int (r 5), .ref (q 5), .ref (q 6), .int (r 8), .ref (q 7), .ref (q 8), .int (r 11), .int (r 12), .int (r 13), .int (r 14)]) := rfl
theorem eS_1 (G : zG) (q : Nat → Nat) (r : Nat → Int32) : eS G q 1 r = .inr (3, [.int (r 0), .int (r 1)]) := rfl
theorem arS_2 (G : zG) (q : Nat → Nat) : zAR (eS G q) G.2.1.1 9 2 41 := ⟨by decide, fun _ => rfl⟩
theorem arS_3 (G : zG) (q : Nat → Nat) : zAR (eS G q) G.2.1.1 9 3 41 := ⟨by decide, fun _ => rfl⟩
theorem arS_4 (G : zG) (q : Nat → Nat) : zAR (eS G q) G.2.1.1 9 4 41 := ⟨by decide, fun _ => rfl⟩
theorem arS_5 (G : zG) (q : Nat → Nat) : zAR (eS G q) G.2.1.1 9 5 41 := ⟨by decide, fun _ => rfl⟩
theorem arS_6 (G : zG) (q : Nat → Nat) : zAR (eS G q) G.2.1.1 9 6 240 := ⟨by decide, fun _ => rfl⟩
theorem arS_7 (G : zG) (q : Nat → Nat) : zAR (eS G q) G.2.1.1 9 7 20 := ⟨by decide, fun _ => rfl⟩
theorem arS_8 (G : zG) (q : Nat → Nat) : zAR (eS G q) G.2.1.1 9 8 20 := ⟨by decide, fun _ => rfl⟩
/-! little words, and rows that speak of them -/
def LF : Nat := 5000
def ic {β : Type} (x : Int32) (n : Nat) (f : Nat → Option β) : Option β := if inb x n = true then f (ix x) else none
theorem ic_some {β : Type} {x : Int32} {n : Nat} {f : Nat → Option β} {r : β} (h : ic x n f = some r) : ∃ k, inb x n = true ∧ ix x = k ∧ k < n ∧ f k = some r := by
  unfold ic at h
  by_cases hb : inb x n = true
  · rw [if_pos hb] at h; exact ⟨_, hb, rfl, inb_lt hb, h⟩
  · rw [if_neg hb] at h; cases h
def bn2 {α β γ : Type} (x : Option (α × β)) (f : α → β → Option γ) : Option γ := x.bind fun y => f y.1 y.2
theorem bn2_some {α β γ : Type} {x : Option (α × β)} {f : α → β → Option γ} {r : γ} (h : bn2 x f = some r) : ∃ a b, x = some (a, b) ∧ f a b = some r := by
  unfold bn2 at h
  cases x with
  | none => cases h
  | some y => exact ⟨y.1, y.2, rfl, h⟩
theorem nz_of {y : Int32} (h : (y != 0) = true) : ¬ y = 0 := by simpa using h
theorem isb_fit {v : Int32} (h : isb v = true) : fits .boolean (.int v) = true := by
  simp only [isb, Bool.or_eq_true, beq_iff_eq] at h
  rcases h with h | h <;> subst h <;> rfl
theorem frq_nI {q : Nat → Nat} {x : Nat} (hx : x < 8) : frq q (nI x) = some (q (27 + x)) := by
  unfold frq
  rw [if_pos (inb_nI hx (by omega)), show ix (nI x) = x from nI_clamp (by omega)]
theorem e_kind : ("CardMachine$Op", "kind", "I", opKind) ∈ opF := List.mem_of_getElem? (i := 0) rfl
theorem e_length : ("CardMachine$Op", "length", "I", opLength) ∈ opF := List.mem_of_getElem? (i := 1) rfl
theorem e_takes : ("CardMachine$Op", "takes", "I", opTakes) ∈ opF := List.mem_of_getElem? (i := 2) rfl
theorem e_puts : ("CardMachine$Op", "puts", "I", opPuts) ∈ opF := List.mem_of_getElem? (i := 3) rfl
theorem e_ordinal : ("java/lang/Enum", "ordinal", "I", opOrd) ∈ opF := List.mem_of_getElem? (i := 4) rfl

theorem in_X1 : ∀ w ∈ wsX10, w ∈ BW := by decide +kernel
theorem in_X2 : ∀ w ∈ wsX20, w ∈ BW := by decide +kernel
theorem in_X3 : ∀ w ∈ wsX30, w ∈ BW := by decide +kernel
theorem in_X5 : ∀ w ∈ wsX50, w ∈ BW := by decide +kernel
theorem in_X6 : ∀ w ∈ wsX60, w ∈ BW := by decide +kernel
theorem in_X7 : ∀ w ∈ wsX70, w ∈ BW := by decide +kernel
theorem in_X8 : ∀ w ∈ wsX80, w ∈ BW := by decide +kernel
theorem in_X9 : ∀ w ∈ wsX90, w ∈ BW := by decide +kernel
