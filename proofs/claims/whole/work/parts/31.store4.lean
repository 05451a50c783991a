/-! PART II, the store: making objects; instructions 28 and 29 -/
/-- n cells of a row, from b on, emptied -/
def zf (M : St) (a : Nat) : Nat → Nat → St
  | _, 0 => M
  | b, n + 1 => zf (up2 M a b 0) a (b + 1) n
theorem zf_row (a n : Nat) : ∀ (M : St) (b c : Nat), c ≠ a → zf M a b n c = M c := by
  induction n with
  | zero => intros; rfl
  | succ n ih => intro M b c h; rw [zf, ih _ _ _ h, up2_row _ _ _ _ _ h]
theorem RE.zfw {a b : Nat} (hp : (a, b) ∈ rws) (n : Nat) : ∀ {C M : St} (j : Nat), RE C M → RE (zf C a j n) (zf M b j n) := by
  induction n with
  | zero => intro C M j h; exact h
  | succ n ih => intro C M j h; exact ih (j + 1) (h.row hp j 0)
theorem cfill (a0 n0 n : Nat) (hn0 : n0 < 2 ^ 31) : ∀ (N b : Nat) (C : St), n < N → b + n ≤ n0 → pJ7_fill_fda19_b10 a0 n0 N C (nI (b + n)) 0 (nI b) = some (zf C a0 b n) := by
  induction n with
  | zero =>
    intro N b C hN hb
    obtain ⟨m, rfl⟩ : ∃ m, N = m + 1 := ⟨N - 1, by omega⟩
    rw [pJ7_fill_fda19_b10, if_pos (show nI (b + 0) ≤ nI b from Int32.le_refl _)]
    rfl
  | succ n ih =>
    intro N b C hN hb
    obtain ⟨m, rfl⟩ : ∃ m, N = m + 1 := ⟨N - 1, by omega⟩
    rw [pJ7_fill_fda19_b10, if_neg (fun q => by have := (nI_leI (by omega) (by omega)).mp q; omega), gd_t (inb_nI (by omega) hn0), ix_nI (by omega), lt_s', nI_1, show b + (n + 1) = (b + 1) + n by omega, ih m (b + 1) _ (by omega) (by omega)]
    rfl
theorem mfill (n : Nat) : ∀ (N j c : Nat) (M : St), n < N → M 0 10 = nI c → c + j + n ≤ 240 → pX9_add_b56 N M (nI (j + n)) (nI j) = some (up2 (zf M 9 (c + j) n) 0 10 (nI (c + (j + n)))) := by
  induction n with
  | zero =>
    intro N j c M hN hc hb
    obtain ⟨m, rfl⟩ : ∃ m, N = m + 1 := ⟨N - 1, by omega⟩
    rw [pX9_add_b56, if_pos (show nI (j + 0) ≤ nI j from Int32.le_refl _), hc, nI_add]
    rfl
  | succ n ih =>
    intro N j c M hN hc hb
    obtain ⟨m, rfl⟩ : ∃ m, N = m + 1 := ⟨N - 1, by omega⟩
    rw [pX9_add_b56, if_neg (fun q => by have := (nI_leI (by omega) (by omega)).mp q; omega), hc, nI_add, gd_t (inb_nI (by omega) (by decide)), ix_nI (by omega), lt_s', nI_1, show j + (n + 1) = (j + 1) + n by omega, ih m (j + 1) c (up2 M 9 (c + j) 0) (by omega) hc (by omega)]
    rfl
def aC (C : St) (n c : Nat) (o x s : Int32) : St := up2 (up2 (up2 (up2 (up2 C 2 4 (nI (n + 1))) 51 (n + 1) o) 52 (n + 1) x) 53 (n + 1) s) 54 (n + 1) (nI c)
def aM (M : St) (n c : Nat) (o x s : Int32) : St := up2 (up2 (up2 (up2 (up2 M 0 4 (nI (n + 1))) 5 (n + 1) o) 6 (n + 1) x) 7 (n + 1) s) 8 (n + 1) (nI c)
theorem rngok {a b c : Nat} (h1 : a ≤ b) (h2 : b ≤ c) (h : c < 2 ^ 31) : pJ7_rangeCheck_23922 (nI c) (nI a) (nI b) = some () := by
  unfold pJ7_rangeCheck_23922
  rw [if_pos ((nI_leI (by omega) (by omega)).mpr h1), if_pos (show (0 : Int32) ≤ nI a from (nI_leI (a := 0) (by omega) (by omega)).mpr (by omega)), if_pos ((nI_leI (by omega) (by omega)).mpr h2)]
theorem cadd {C : St} {n c s : Nat} (hn : C 2 4 = nI n) (hc : C 2 8 = nI c) (h40 : n < 40) (h240 : c + s ≤ 240) (o x : Int32) : pX7_add C o x (nI s) = some (up2 (zf (aC C n c o x (nI s)) 55 c s) 2 8 (nI (c + s))) := by
  have g : inb (nI (n + 1)) 41 = true := inb_nI (by omega) (by decide)
  have i : ix (nI (n + 1)) = n + 1 := ix_nI (by omega)
  have hL : s < LF := by unfold LF; omega
  unfold pX7_add pJ7_fill_fda19
  rw [lt_s', hn, nI_1]
  have q : ∀ (a j : Nat) (v : Int32) (D : St), (a ≠ 2 ∨ j ≠ 4) → D 2 4 = nI (n + 1) → (up2 D a j v) 2 4 = nI (n + 1) := fun a j v D h e => by rw [up2_cell _ _ _ _ _ _ (by omega)]; exact e
  have q8 : ∀ (a j : Nat) (v : Int32) (D : St), (a ≠ 2 ∨ j ≠ 8) → D 2 8 = nI c → (up2 D a j v) 2 8 = nI c := fun a j v D h e => by rw [up2_cell _ _ _ _ _ _ (by omega)]; exact e
  have e0 : (up2 C 2 4 (nI (n + 1))) 2 4 = nI (n + 1) := up2_at _ _ _ _
  have f0 : (up2 C 2 4 (nI (n + 1))) 2 8 = nI c := q8 _ _ _ _ (by omega) hc
  rw [e0, gd_t g, i, lt_s']
  have e1 := q 51 (n + 1) o _ (by omega) e0
  have f1 := q8 51 (n + 1) o _ (by omega) f0
  rw [e1, gd_t g, i, lt_s']
  have e2 := q 52 (n + 1) x _ (by omega) e1
  have f2 := q8 52 (n + 1) x _ (by omega) f1
  rw [e2, gd_t g, i, lt_s']
  have e3 := q 53 (n + 1) (nI s) _ (by omega) e2
  have f3 := q8 53 (n + 1) (nI s) _ (by omega) f2
  rw [e3, gd_t g, i, lt_s', f3]
  have f4 := q8 54 (n + 1) (nI c) _ (by omega) f3
  rw [f4, nI_add, rngok (by omega) h240 (by decide), bn_s, cfill 55 240 s (by decide) LF c _ hL h240, bn_s, lt_s', zf_row _ _ _ _ _ (by decide), f4, nI_add]
  rfl
theorem madd {M : St} {n c s : Nat} (hn : M 0 4 = nI n) (hc : M 0 10 = nI c) (h40 : n < 40) (h240 : c + s ≤ 240) (o x : Int32) : pX9_add M o x (nI s) = some (up2 (zf (aM M n c o x (nI s)) 9 c s) 0 10 (nI (c + s))) := by
  have g : inb (nI (n + 1)) 41 = true := inb_nI (by omega) (by decide)
  have i : ix (nI (n + 1)) = n + 1 := ix_nI (by omega)
  have hL : s < LF := by unfold LF; omega
  unfold pX9_add
  rw [lt_s', hn, nI_1]
  have q : ∀ (a j : Nat) (v : Int32) (D : St), (a ≠ 0 ∨ j ≠ 4) → D 0 4 = nI (n + 1) → (up2 D a j v) 0 4 = nI (n + 1) := fun a j v D h e => by rw [up2_cell _ _ _ _ _ _ (by omega)]; exact e
  have q8 : ∀ (a j : Nat) (v : Int32) (D : St), (a ≠ 0 ∨ j ≠ 10) → D 0 10 = nI c → (up2 D a j v) 0 10 = nI c := fun a j v D h e => by rw [up2_cell _ _ _ _ _ _ (by omega)]; exact e
  have e0 : (up2 M 0 4 (nI (n + 1))) 0 4 = nI (n + 1) := up2_at _ _ _ _
  have f0 : (up2 M 0 4 (nI (n + 1))) 0 10 = nI c := q8 _ _ _ _ (by omega) hc
  rw [e0, gd_t g, i, lt_s']
  have e1 := q 5 (n + 1) o _ (by omega) e0
  have f1 := q8 5 (n + 1) o _ (by omega) f0
  rw [e1, gd_t g, i, lt_s']
  have e2 := q 6 (n + 1) x _ (by omega) e1
  have f2 := q8 6 (n + 1) x _ (by omega) f1
  rw [e2, gd_t g, i, lt_s']
  have e3 := q 7 (n + 1) (nI s) _ (by omega) e2
  have f3 := q8 7 (n + 1) (nI s) _ (by omega) f2
  rw [e3, gd_t g, i, lt_s', f3]
  have f4 := q8 8 (n + 1) (nI c) _ (by omega) f3
  have := mfill s LF 0 c _ hL f4 (by omega)
  rw [Nat.zero_add, Nat.add_zero] at this
  exact this
theorem RE.add {C M : St} (h : RE C M) (n c s : Nat) (o x v : Int32) : RE (up2 (zf (aC C n c o x v) 55 c s) 2 8 (nI (c + s))) (up2 (zf (aM M n c o x v) 9 c s) 0 10 (nI (c + s))) :=
  (RE.zfw (by decide +kernel) s c (((((h.both (by decide +kernel) _).row (by decide +kernel) _ _).row (by decide +kernel) _ _).row (by decide +kernel) _ _).row (by decide +kernel) _ _)).both (by decide +kernel) _
theorem CA.add {C D : St} (h : CA C D) (n c s : Nat) (o x v : Int32) : CA C (up2 (zf (aC D n c o x v) 55 c s) 2 8 (nI (c + s))) := by
  have h2 : CA C (aC D n c o x v) := ((((h.up (by decide)).up (by decide)).up (by decide)).up (by decide)).up (by decide)
  have h3 : CA C (zf (aC D n c o x v) 55 c s) := ⟨fun a h1 h4 => by rw [zf_row _ _ _ _ _ (by omega)]; exact h2.1 a h1 h4, by rw [zf_row _ _ _ _ _ (by decide)]; exact h2.2⟩
  exact h3.up (by decide)
theorem MA.add {M N : St} (h : MA M N) (n c s : Nat) (o x v : Int32) : MA M (up2 (zf (aM N n c o x v) 9 c s) 0 10 (nI (c + s))) := by
  have h2 : MA M (aM N n c o x v) := ((((h.up (by decide)).upr (by decide) (by decide)).upr (by decide) (by decide)).upr (by decide) (by decide)).upr (by decide) (by decide)
  have h3 : MA M (zf (aM N n c o x v) 9 c s) := ⟨fun b h1 => by rw [zf_row _ _ _ _ _ (by omega)]; exact h2.1 b h1, fun i hi => by rw [zf_row _ _ _ _ _ (by decide)]; exact h2.2 i hi⟩
  exact h3.up (by decide)
theorem Iobj.add {n c s : Nat} {so si ba : Nat → Int32} (h : Iobj n c so si ba) (s1 : 1 ≤ s) (s16 : s ≤ 16) {x : Int32} (hx : x = 0 ∨ x = 1) : Iobj (n + 1) (c + s) (upd so (n + 1) x) (upd si (n + 1) (nI s)) (upd ba (n + 1) (nI c)) := fun k k1 k2 => by
  by_cases e : k = n + 1
  · subst e
    exact ⟨by simpa [upd] using hx, s, c, s1, s16, Nat.le_refl _, by simp [upd], by simp [upd]⟩
  · obtain ⟨q1, s', b, q2, q3, q4, q5, q6⟩ := h k k1 (by omega)
    exact ⟨by simpa [upd, e] using q1, s', b, q2, q3, by omega, by simpa [upd, e] using q5, by simpa [upd, e] using q6⟩
theorem Iobj.keep {n c m : Nat} {so si ba : Nat → Int32} {x y z : Int32} (h : Iobj n c so si ba) (hm : n < m) : Iobj n c (upd so m x) (upd si m y) (upd ba m z) := fun k k1 k2 => by
  have e : k ≠ m := by omega
  obtain ⟨q1, s', b, q2, q3, q4, q5, q6⟩ := h k k1 k2
  exact ⟨by simpa [upd, e] using q1, s', b, q2, q3, q4, by simpa [upd, e] using q5, by simpa [upd, e] using q6⟩
theorem INV.add {M : St} (h : INV M) {n c s : Nat} (hn : M 0 4 = nI n) (hc : M 0 10 = nI c) (h40 : n < 40) (hc2 : c + s ≤ 240) (s1 : 1 ≤ s) (s16 : s ≤ 16) {x : Int32} (hx : x = 0 ∨ x = 1) (o : Int32) : INV (up2 (zf (aM M n c o x (nI s)) 9 c s) 0 10 (nI (c + s))) := by
  obtain ⟨n', c', g1, g2, g3, g4, g5, g6, g7⟩ := h.2.2.1
  have e1 : n' = n := nI_eqI (by omega) (by omega) (g4.symm.trans hn)
  have e2 : c' = c := nI_eqI (by omega) (by omega) (g5.symm.trans hc)
  subst e1
  subst e2
  have r : ∀ b, b ≠ 9 → b ≠ 0 → (up2 (zf (aM M n' c' o x (nI s)) 9 c' s) 0 10 (nI (c' + s))) b = aM M n' c' o x (nI s) b := fun b h1 h2 => by rw [up2_row _ _ _ _ _ h2, zf_row _ _ _ _ _ h1]
  have r0 : ∀ i, i ≠ 10 → (up2 (zf (aM M n' c' o x (nI s)) 9 c' s) 0 10 (nI (c' + s))) 0 i = aM M n' c' o x (nI s) 0 i := fun i h1 => by rw [up2_cell _ _ _ _ _ _ (Or.inr h1), zf_row _ _ _ _ _ (by decide)]
  unfold INV
  rw [r 1 (by decide) (by decide), r 2 (by decide) (by decide), r 3 (by decide) (by decide), r 4 (by decide) (by decide), r 6 (by decide) (by decide), r 7 (by decide) (by decide), r 8 (by decide) (by decide), r 10 (by decide) (by decide), up2_at, r0 4 (by decide), r0 13 (by decide), r0 14 (by decide), r0 15 (by decide), r0 18 (by decide), r0 19 (by decide), r0 21 (by decide), r0 23 (by decide), r0 11 (by decide)]
  refine ⟨h.1, h.2.1, ⟨n' + 1, c' + s, by omega, by omega, by omega, rfl, rfl, g6.add s1 s16 hx, ?_⟩, h.2.2.2⟩
  rcases g7 with g7 | ⟨g7, t, w, ob, cb, t1, t2, t3, t4, t5, t6, t7, t8, t9, t10, t11⟩
  · exact Or.inl g7
  · exact Or.inr ⟨g7, t, w, ob, cb, t1, t2, t3, t4, t5, by omega, by omega, t8, t9, t10.keep (by omega), t11⟩
theorem INV.thing {M : St} (h : INV M) {t : Nat} (ht : M 0 14 = nI t) (h20 : t < 20) : INV (up2 M 0 14 (nI (t + 1))) := by
  obtain ⟨n', c', g1, g2, g3, g4, g5, g6, g7⟩ := h.2.2.1
  refine ⟨h.1, h.2.1, ⟨n', c', g1, g2, g3, g4, g5, g6, ?_⟩, h.2.2.2⟩
  rcases g7 with g7 | ⟨g7, t', w, ob, cb, t1, t2, t3, t4, t5, t6, t7, t8, t9, t10, t11⟩
  · exact Or.inl g7
  · have e : t' = t := nI_eqI (by omega) (by omega) (t3.symm.trans ht)
    subst e
    exact Or.inr ⟨g7, t' + 1, w, ob, cb, by omega, by omega, rfl, t4, t5, t6, t7, t8, t9, t10, t11⟩
/-- the tail of both: an object is added, then its number is put -/
theorem mkT {C M D N : St} {k h p j len n c s : Nat} (e : EX C M k h p j len) (hre : RE D N) (hinv : INV N) (hc : CA C D) (hm : MA M N) (hn : N 0 4 = nI n) (hcc : N 0 10 = nI c) (h40 : n < 40) (h240 : c + s ≤ 240) (s1 : 1 ≤ s) (s16 : s ≤ 16) {x : Int32} (hx : x = 0 ∨ x = 1) (o : Int32) (h16 : h < 16) (hl : len = 2) :
    OUT (bn (pX7_add D o x (nI s)) fun M2 => bn2 (pX6_put M2 (M2 2 4)) fun r5 M5 => some (r5, M5)) (bn (pX9_add N o x (nI s)) fun M2 => bn (pX9_on M2 2) fun M3 => bn (pX9_put M3 (M3 0 4)) fun M4 => some M4) := by
  subst hl
  have hk := e.k
  have d4 : D 2 4 = nI n := (hre.s (a := 2) (j := 4) (b := 0) (i := 4) (by decide +kernel)).trans hn
  have d8 : D 2 8 = nI c := (hre.s (a := 2) (j := 8) (b := 0) (i := 10) (by decide +kernel)).trans hcc
  have r := e.1.ag (hre.add n c s o x (nI s)) (hinv.add hn hcc h40 h240 s1 s16 hx o) (hc.add n c s o x (nI s)) (hm.add n c s o x (nI s))
  have v4 : (up2 (zf (aM N n c o x (nI s)) 9 c s) 0 10 (nI (c + s))) 0 4 = nI (n + 1) := by
    rw [up2_cell _ _ _ _ _ _ (Or.inr (by decide)), zf_row _ _ _ _ _ (by decide)]; rfl
  have c4 : (up2 (zf (aC D n c o x (nI s)) 55 c s) 2 8 (nI (c + s))) 2 4 = nI (n + 1) := by
    rw [up2_cell _ _ _ _ _ _ (Or.inr (by decide)), zf_row _ _ _ _ _ (by decide)]; rfl
  have cpl : (up2 (zf (aC D n c o x (nI s)) 55 c s) 2 8 (nI (c + s))) (27 + k) 4 = nI (p + 2) := by
    rw [(hc.add n c s o x (nI s)).1 _ (by omega) (by omega)]; exact e.cp
  have mpl : (up2 (zf (aM N n c o x (nI s)) 9 c s) 0 10 (nI (c + s))) 15 k = nI p := by
    rw [(hm.add n c s o x (nI s)).1 _ (by decide)]; exact e.mp
  rw [cadd d4 d8 h40 h240, madd hn hcc h40 h240, bn_s, bn_s, bn2_eta, c4]
  generalize up2 (zf (aC D n c o x (nI s)) 55 c s) 2 8 (nI (c + s)) = D2 at *
  generalize up2 (zf (aM N n c o x (nI s)) 9 c s) 0 10 (nI (c + s)) = N2 at *
  rw [mon (k := k) r.1.m hk, bn_s, mpl, show (2 : Int32) = nI 2 from rfl, nI_add, show (up2 N2 15 k (nI (p + 2))) 0 4 = nI (n + 1) from v4, bn_eta]
  have r2 := (r.mp (nI (p + 2))).push h16 (S16_of (nI (n + 1)))
  refine OUT.go (cput r.1.f hk r.2.2.1 h16 _) (mput (M := up2 N2 15 k (nI (p + 2))) (k := k) r.1.m hk r.2.2.2.1 h16 _) ⟨r2, ?_⟩
  rw [up2_cell _ _ _ _ _ _ (Or.inr (by decide)), up2_cell _ _ _ _ _ _ (Or.inl (by omega)), cpl, up2_row _ _ _ _ _ (by decide), up2_row _ _ _ _ _ (by decide), up2_at]
theorem mkO {C M : St} {k h p j len : Nat} (e : EX C M k h p j len) (hl : len = 2) {x : Int32} (hx : x = 0 ∨ x = 1) (ha : pX9_act M (nI j) = bn (pX9_make M x) fun M4 => some M4) : OUT (pX6_makeObject C x) (mgo M (pX9_fault_b332 M)) := by
  subst hl
  have hk := e.k
  have h16 := e.h16
  obtain ⟨y, hy, ey⟩ := e.1.1.2.1.1 (p + 1)
  obtain ⟨n, c, g1, g2, g3, g4, g5, g6, g7⟩ := e.1.1.2.1.2.2.1
  have c4 : C 4 = M 1 := e.1.1.1.r (by decide +kernel)
  have d4 : C 2 4 = nI n := (e.1.1.1.s (a := 2) (j := 4) (b := 0) (i := 4) (by decide +kernel)).trans g4
  have d8 : C 2 8 = nI c := (e.1.1.1.s (a := 2) (j := 8) (b := 0) (i := 10) (by decide +kernel)).trans g5
  have d5 : C 2 5 = M 0 13 := e.1.1.1.s (by decide +kernel)
  have d12 : C 2 12 = M 0 14 := e.1.1.1.s (by decide +kernel)
  have pl := e.2.2.2.2.1
  have mb : pX9_byteAt M 1 = some (nI y) := by rw [mbyte (x := 1) (j := 1) e.m hk e.mp rfl (by omega), ey]
  unfold pX6_makeObject pX9_fault_b332
  rw [cuns (x := 1) (j := 1) e.at' rfl (by omega), bn_s, c4, ey, mb, bn_s]
  unfold pX7_makeFault pX9_isIn pX9_fault_b373
  rw [d4, d8, show (1 : Int32) = nI 1 from rfl, show (16 : Int32) = nI 16 from rfl, show (240 : Int32) = nI 240 from rfl, show (40 : Int32) = nI 40 from rfl, g4, g5, nI_subN (by omega), nI_add]
  have m8 : ∀ {q : Int32}, q = 8 → OUT (some (q, C)) (mgo M (some 8)) := fun {q} e8 => by
    subst e8; exact OUT.thr (S16_nI (n := 8) (by decide)) rfl (mgo_f M (by decide)) e.1.1
  have b8 : pX9_fault_b374 M 0 = some 8 := rfl
  by_cases q1 : y < 1
  · rw [if_pos ((nI_ltI (by omega) (by omega)).mpr q1), if_pos ((nI_ltI (by omega) (by omega)).mpr q1), bn_s, bn_s, if_neg (by decide), if_pos rfl, b8]
    exact m8 rfl
  have n1 : ¬ nI y < nI 1 := fun q => q1 ((nI_ltI (by omega) (by omega)).mp q)
  rw [if_neg n1, if_neg n1]
  by_cases q2 : 16 < y
  · rw [if_pos ((nI_ltI (by omega) (by omega)).mpr q2), if_pos ((nI_ltI (by omega) (by omega)).mpr q2), bn_s, bn_s, if_neg (by decide), if_pos rfl, b8]
    exact m8 rfl
  have n2 : ¬ nI 16 < nI y := fun q => q2 ((nI_ltI (by omega) (by omega)).mp q)
  rw [if_neg n2, if_neg n2, bn_s, if_neg (show ¬ nI 1 = 0 by decide)]
  by_cases q3 : 240 - c < y
  · rw [if_pos ((nI_ltI (by omega) (by omega)).mpr q3), bn_s, if_neg (by decide)]
    have q3' : nI 240 < nI (c + y) := (nI_ltI (by omega) (by omega)).mpr (by omega)
    rw [if_pos q3', b8, ite_self]
    exact m8 rfl
  have n3 : ¬ nI (240 - c) < nI y := fun q => q3 ((nI_ltI (by omega) (by omega)).mp q)
  have n3' : ¬ nI 240 < nI (c + y) := fun q => q3 (by have := (nI_ltI (by omega) (by omega)).mp q; omega)
  rw [if_neg n3, if_neg n3']
  by_cases q4 : n = 40
  · rw [if_pos (by rw [q4]), bn_s, if_neg (by decide), if_pos ((nI_leI (by omega) (by omega)).mpr (by omega)), b8]
    exact m8 rfl
  have n4 : ¬ nI n = nI 40 := fun q => q4 (nI_eqI (by omega) (by omega) q)
  have n4' : ¬ nI 40 ≤ nI n := fun q => q4 (by have := (nI_leI (by omega) (by omega)).mp q; omega)
  rw [if_neg n4, if_neg n4', bn_eta]
  unfold pX7_thingFault
  rw [d5, d12, show pX9_fault_b374 M (nI 1) = (if M 0 13 = 0 then bn (pX9_depth M) fun r1 => if r1 = 16 then some 6 else some 0 else if M 0 14 = 20 then some 5 else bn (pX9_depth M) fun r2 => if r2 = 16 then some 6 else some 0) from rfl, mdepth e.m hk e.mh, bn_s]
  by_cases full : ¬ M 0 13 = 0 ∧ M 0 14 = 20
  · rw [if_neg full.1, if_pos full.2, if_neg full.1, if_pos full.2, bn_s, if_neg (by decide)]
    exact OUT.thr (S16_nI (n := 5) (by decide)) rfl (mgo_f M (by decide)) e.1.1
  · have k1 : (if M 0 13 = 0 then some (65536 : Int32) else if M 0 14 = 20 then some 5 else some 65536) = some 65536 := by
      by_cases q : M 0 13 = 0
      · rw [if_pos q]
      · rw [if_neg q, if_neg (fun w => full ⟨q, w⟩)]
    have k2 : (if M 0 13 = 0 then (if nI h = 16 then some (6 : Int32) else some 0) else if M 0 14 = 20 then some 5 else (if nI h = 16 then some (6 : Int32) else some 0)) = (if nI h = 16 then some (6 : Int32) else some 0) := by
      by_cases q : M 0 13 = 0
      · rw [if_pos q]
      · rw [if_neg q, if_neg (fun w => full ⟨q, w⟩)]
    rw [k1, bn_s, if_pos rfl, ic_of _ e.f hk (by omega), k2, show pX2_hasRoom C k (nI 1) = _ from chasRoom e.hh h16, bn_s]
    by_cases q6 : h = 16
    · rw [if_pos q6, if_pos rfl, if_pos (by rw [q6]; rfl)]
      exact OUT.thr (S16_nI (n := 6) (by decide)) rfl (mgo_f M (by decide)) e.1.1
    · rw [if_neg q6, if_neg (show ¬ (1 : Int32) = 0 by decide), ic_of _ e.f hk (by omega), if_neg (show ¬ nI h = 16 from fun q => q6 (nI_eqI (b := 16) (by omega) (by omega) q)), mgo_0 e, ha, bn_eta, (e.1.1.2.2.2.2.1 k (Nat.le_refl _)).1]
      unfold pX7_make pX9_make
      rw [mb, bn_s]
      have s1 : 1 ≤ y := by omega
      rcases wr e.1.1.1 e.1.1.2.2.2.1.2.2.2.2.2 with ⟨v, w1, w2⟩ | ⟨w1, w2⟩
      · rw [w1, w2, bn2_s, bn2_s, if_neg (show ¬ (1 : Int32) = 0 by decide), if_neg (show ¬ (1 : Int32) = 0 by decide), show (up2 C 3 1 v) 2 5 = M 0 13 from d5, show (up2 M 0 12 v) 0 13 = M 0 13 from rfl]
        by_cases q : M 0 13 = 0
        · rw [if_pos q, if_pos q]
          unfold pX9_make_b31
          rw [lt_s', show (up2 M 0 12 v) 0 14 + 0 = (up2 M 0 12 v) 0 14 from Int32.add_zero _, up2_self, mtop (M := up2 M 0 12 v) (k := k) e.m, bn_s, gd_t (inb_nI hk (by decide)), ix_nI (by omega), show (up2 M 0 12 v) 14 k = M 14 k from rfl]
          have := mkT e (D := up2 C 3 1 v) (N := up2 M 0 12 v) (e.1.1.1.tear v) (e.1.1.2.1.tear v) (CA.rf.up (by decide)) (MA.rf.up (by decide)) g4 g5 (by omega) (show c + y ≤ 240 by omega) s1 (by omega) hx (M 14 k) (by omega) rfl
          revert this
          cases pX7_add (up2 C 3 1 v) (M 14 k) x (nI y) with
          | none => exact id
          | some z => exact id
        · rw [if_neg q, if_neg q]
          rcases g7 with g7 | ⟨g7, t, w, ob, cb, t1, t2, t3, t4, -⟩
          · exact absurd g7 q
          have t20 : t < 20 := by
            rcases Nat.lt_or_ge t 20 with u | u
            · exact u
            · exact absurd ⟨q, by rw [t3, show t = 20 by omega]; rfl⟩ full
          unfold pX9_make_b31
          rw [lt_s', lt_s', show (up2 C 3 1 v) 2 12 = nI t from d12.trans t3, show (up2 M 0 12 v) 0 14 = nI t from t3, nI_1, mtop (k := k) (M := up2 (up2 M 0 12 v) 0 14 (nI (t + 1))) e.m, bn_s, gd_t (inb_nI hk (by decide)), ix_nI (by omega), show (up2 (up2 M 0 12 v) 0 14 (nI (t + 1))) 14 k = M 14 k from rfl]
          have := mkT e (D := up2 (up2 C 3 1 v) 2 12 (nI (t + 1))) (N := up2 (up2 M 0 12 v) 0 14 (nI (t + 1))) ((e.1.1.1.tear v).both (by decide +kernel) _) (INV.thing (M := up2 M 0 12 v) (e.1.1.2.1.tear v) t3 t20) ((CA.rf.up (by decide)).up (by decide)) ((MA.rf.up (by decide)).up (by decide)) g4 g5 (by omega) (show c + y ≤ 240 by omega) s1 (by omega) hx (M 14 k) (by omega) rfl
          revert this
          cases pX7_add (up2 (up2 C 3 1 v) 2 12 (nI (t + 1))) (M 14 k) x (nI y) with
          | none => exact id
          | some z => exact id
      · rw [w1, w2, bn2_s, bn2_s, if_pos rfl, if_pos rfl, bn2_s, bn2_eta]
        refine OUT.fin (cput (C := up2 (up2 C 3 1 (-1)) 3 0 0) (k := k) (h := h) ?_ hk ?_ (by omega) 0) rfl ((e.1.1.off.left _ (by omega) (by omega) _).left _ (by omega) (by omega) _)
        · exact e.f
        · rw [up2_cell _ _ _ _ _ _ (Or.inl (by omega)), up2_cell _ _ _ _ _ _ (Or.inl (by omega))]; exact e.hh
theorem op_28 {C M : St} {k h p : Nat} (e : EX C M k h p 28 2) : OUT (pX6_useObjects C 28) (mgo M (pX9_fault_b332 M)) := by
  rw [show pX6_useObjects C 28 = (bn2 (pX6_makeObject C 0) fun r2 M2 => some (r2, M2)) from rfl, bn2_eta]
  exact mkO e rfl (Or.inl rfl) rfl
theorem op_29 {C M : St} {k h p : Nat} (e : EX C M k h p 29 2) : OUT (pX6_useObjects C 29) (mgo M (pX9_fault_b332 M)) := by
  rw [show pX6_useObjects C 29 = (bn2 (pX6_makeObject C 1) fun r2 M2 => some (r2, M2)) from rfl, bn2_eta]
  exact mkO e rfl (Or.inr rfl) rfl
