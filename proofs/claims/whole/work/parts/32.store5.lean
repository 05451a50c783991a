/-! PART II, the store: instruction 35 -/
theorem R1.used {C M : St} {k : Nat} (h : R1 C M k) (v : Int32) : R1 (up2 C 1 7 v) (up2 M 0 32 v) k :=
  h.congr (h.1.both (by decide +kernel) v) h.2.1 (fun j hj => up2_cell _ _ _ _ _ _ (Or.inr (by omega))) (fun i hi => ⟨up2_cell _ _ _ _ _ _ (Or.inl (by omega)), up2_cell _ _ _ _ _ _ (Or.inl (by omega))⟩) (fun i j hi _ => up2_cell _ _ _ _ _ _ (Or.inl (by omega))) (fun i hi => ⟨up2_cell _ _ _ _ _ _ (Or.inl (by omega)), up2_cell _ _ _ _ _ _ (Or.inl (by omega))⟩) (fun i j hi _ => up2_cell _ _ _ _ _ _ (Or.inl (by omega))) (fun i hi => up2_cell _ _ _ _ _ _ (Or.inr (by omega))) (fun _ _ => ⟨rfl, rfl, rfl⟩) (fun _ _ => rfl) (fun _ _ => ⟨rfl, rfl⟩) (fun _ _ => rfl)
theorem R2.used {C M : St} {k h : Nat} (r : R2 C M k h) (v : Int32) : R2 (up2 C 1 7 v) (up2 M 0 32 v) k h := by
  refine ⟨r.1.used v, r.2.1, ?_, r.2.2.2.1, fun j hj => ?_⟩
  · rw [up2_cell _ _ _ _ _ _ (Or.inl (by omega))]; exact r.2.2.1
  · rw [up2_cell _ _ _ _ _ _ (Or.inl (by omega))]; exact r.2.2.2.2 j hj
/-- numbers of 16 bits: adding and taking away say the same -/
theorem rng_add {s : Nat} {i n : Int32} (hs : s ≤ 16) (hi : S16 i) (hn : S16 n) : (nI s < i + n) ↔ (nI s - n < i) := by
  have h1 := S16_rng hi
  have h2 := S16_rng hn
  rw [Int32.lt_iff_toInt_lt, Int32.lt_iff_toInt_lt, Int32.toInt_add, Int32.toInt_sub, nI_toInt (by omega), Int.bmod_def, Int.bmod_def]
  omega
theorem copyF {C M : St} {k : Nat} {o i i' n : Int32} (hm : M 0 24 = nI (k + 1)) (hk : k < 8) (ho : o = M 14 k) (h51 : C 51 = M 5) (h52 : C 52 = M 6) (h53 : C 53 = M 7) (h4 : C 2 4 = M 0 4) (hz : True) {x x' : Int32} {on oc : Nat} (en : M 0 4 = nI on) (h40 : on ≤ 40) (hob : Iobj on oc (M 6) (M 7) (M 8)) (hi : S16 i) (hi' : S16 i') (hn : S16 n) :
    (∃ f, (f = 2 ∨ f = 3 ∨ f = 4 ∨ f = 8 ∨ f = 11) ∧ pX7_copyFault C o x i x' i' n = some f ∧ pX9_copyFault M x i x' i' n = some f) ∨
    (∃ z s b y z' s' b' y' m, x = nI z ∧ x' = nI z' ∧ z < 41 ∧ z' < 41 ∧ i = nI y ∧ i' = nI y' ∧ n = nI m ∧ M 8 z = nI b ∧ M 8 z' = nI b' ∧ y + m ≤ s ∧ y' + m ≤ s' ∧ b + s ≤ oc ∧ b' + s' ≤ oc ∧ s ≤ 16 ∧ s' ≤ 16 ∧ pX7_copyFault C o x i x' i' n = some 65536 ∧ pX9_copyFault M x i x' i' n = some 0) := by
  unfold pX7_copyFault pX9_copyFault
  rw [chas_eq h4, chas_eq h4]
  rcases isObj en h40 x with q | ⟨z, z1, zn, rfl, q⟩
  · rw [q, bn_s, bn_s, if_pos rfl, if_pos rfl]
    exact Or.inl ⟨2, Or.inl rfl, rfl, rfl⟩
  rw [q, bn_s, bn_s, if_neg (show ¬ (1 : Int32) = 0 by decide), if_neg (show ¬ (1 : Int32) = 0 by decide)]
  rcases isObj en h40 x' with q' | ⟨z', z1', zn', rfl, q'⟩
  · rw [q', bn_s, bn_s, if_pos rfl, if_pos rfl]
    exact Or.inl ⟨2, Or.inl rfl, rfl, rfl⟩
  rw [q', bn_s, bn_s, if_neg (show ¬ (1 : Int32) = 0 by decide), if_neg (show ¬ (1 : Int32) = 0 by decide)]
  rcases shut (o := o) hm hk ho h51 (show z < 41 by omega) with ⟨s1, s2⟩ | ⟨s1, s2⟩
  rotate_left
  · rw [s1, s2, bn_s, bn_s, if_pos rfl, if_neg (show ¬ (1 : Int32) = 0 by decide)]
    exact Or.inl ⟨4, Or.inr (Or.inr (Or.inl rfl)), rfl, rfl⟩
  rw [s1, s2, bn_s, bn_s, if_neg (show ¬ (1 : Int32) = 0 by decide), if_pos rfl]
  rcases shut (o := o) hm hk ho h51 (show z' < 41 by omega) with ⟨s1', s2'⟩ | ⟨s1', s2'⟩
  rotate_left
  · rw [s1', s2', bn_s, bn_s, if_pos rfl, if_neg (show ¬ (1 : Int32) = 0 by decide)]
    exact Or.inl ⟨4, Or.inr (Or.inr (Or.inl rfl)), rfl, rfl⟩
  obtain ⟨so, s, b, w1, w2, w3, w4, w5⟩ := hob z z1 zn
  obtain ⟨so', s', b', w1', w2', w3', w4', w5'⟩ := hob z' z1' zn'
  have gz : inb (nI z) 41 = true := inb_nI (by omega) (by decide)
  have gz' : inb (nI z') 41 = true := inb_nI (by omega) (by decide)
  rw [s1', s2', bn_s, bn_s, if_neg (show ¬ (1 : Int32) = 0 by decide), if_pos rfl]
  simp only [gd_t gz, gd_t gz', ix_nI (show z < 2 ^ 31 by omega), ix_nI (show z' < 2 ^ 31 by omega), h52, w4, w4']
  rcases so with so | so
  · rw [so, if_neg (show ¬ (0 : Int32) = 1 by decide), if_pos rfl]
    exact Or.inl ⟨11, by simp, rfl, rfl⟩
  rw [so, if_pos rfl, if_neg (show ¬ (1 : Int32) = 0 by decide)]
  rcases so' with so' | so'
  · rw [so', if_neg (show ¬ (0 : Int32) = 1 by decide), if_pos rfl]
    exact Or.inl ⟨11, by simp, rfl, rfl⟩
  rw [so', if_pos rfl, if_neg (show ¬ (1 : Int32) = 0 by decide)]
  by_cases n0 : 0 ≤ n
  rotate_left
  · rw [if_neg n0, if_neg n0]
    exact Or.inl ⟨8, by simp, rfl, rfl⟩
  rw [if_pos n0, if_pos n0]
  have hc : ∀ (z s : Nat) (i : Int32), z < 41 → s ≤ 16 → S16 i → M 7 z = nI s → (i < 0 ∧ pX7_hasCells C (nI z) i n = some 0) ∨ (¬ i < 0 ∧ nI s < i + n ∧ pX7_hasCells C (nI z) i n = some 0) ∨ (¬ i < 0 ∧ ¬ nI s < i + n ∧ pX7_hasCells C (nI z) i n = some 1) := fun z s i hz hs h16 e => by
    unfold pX7_hasCells
    by_cases a : i < 0
    · exact Or.inl ⟨a, by rw [if_pos a]⟩
    · rw [if_neg a, gd_t (inb_nI hz (by decide)), ix_nI (by omega), h53, e]
      by_cases b : nI s < i + n
      · exact Or.inr (Or.inl ⟨a, b, by rw [if_pos ((rng_add hs h16 hn).mp b)]⟩)
      · exact Or.inr (Or.inr ⟨a, b, by rw [if_neg (fun q => b ((rng_add hs h16 hn).mpr q))]⟩)
  have key : ∀ (s : Nat) (i : Int32), s ≤ 16 → S16 i → ¬ i < 0 → ¬ nI s < i + n → ∃ y m, i = nI y ∧ n = nI m ∧ y + m ≤ s := fun s i hs h16 a b => by
    obtain ⟨y, hy, rfl⟩ := nI_of a
    obtain ⟨m, hm2, rfl⟩ := nI_of (x := n) (fun q => by rw [Int32.lt_iff_toInt_lt] at q; rw [Int32.le_iff_toInt_le] at n0; omega)
    have r1 := S16_rng h16
    have r2 := S16_rng hn
    rw [nI_toInt hy] at r1
    rw [nI_toInt hm2] at r2
    refine ⟨y, m, rfl, rfl, ?_⟩
    rw [nI_add, nI_ltI (by omega) (by omega)] at b
    omega
  rcases hc z s i (by omega) w2 hi w4 with ⟨a1, a2⟩ | ⟨a1, a2, a3⟩ | ⟨a1, a2, a3⟩
  · rw [a2, bn_s, if_pos rfl, if_pos a1]
    exact Or.inl ⟨3, by simp, rfl, rfl⟩
  · rw [a3, bn_s, if_pos rfl, if_neg a1, if_pos a2, ite_self]
    exact Or.inl ⟨3, by simp, rfl, rfl⟩
  · rw [a3, bn_s, if_neg (show ¬ (1 : Int32) = 0 by decide), if_neg a1, if_neg a2]
    rcases hc z' s' i' (by omega) w2' hi' w4' with ⟨b1, b2⟩ | ⟨b1, b2, b3⟩ | ⟨b1, b2, b3⟩
    · rw [b2, bn_s, if_pos rfl, if_pos b1]
      exact Or.inl ⟨3, by simp, rfl, rfl⟩
    · rw [b3, bn_s, if_pos rfl, if_neg b1, if_pos b2]
      exact Or.inl ⟨3, by simp, rfl, rfl⟩
    · rw [b3, bn_s, if_neg (show ¬ (1 : Int32) = 0 by decide), if_neg b1, if_neg b2]
      obtain ⟨y, m, e1, e2, e3⟩ := key s i w2 hi a1 a2
      obtain ⟨y', m', e1', e2', e3'⟩ := key s' i' w2' hi' b1 b2
      have em : m = m' := by
        have r := S16_rng hn
        rcases Nat.lt_or_ge m (2 ^ 31) with u | u
        · rcases Nat.lt_or_ge m' (2 ^ 31) with u' | u'
          · exact nI_eqI u u' (e2.symm.trans e2')
          · omega
        · omega
      subst em
      exact Or.inr ⟨z, s, b, y, z', s', b', y', m, rfl, rfl, by omega, by omega, e1, e1', e2, w5, w5', e3, e3', w3, w3', w2, w2', rfl, rfl⟩
theorem cloop (a b cnt : Nat) (ha : a + cnt ≤ 240) (hb : b + cnt ≤ 240) (n : Nat) : ∀ (N j : Nat) (C M : St), j + n = cnt → n < N → RE C M → INV M → M 0 11 = 1 → C 1 5 = 0 → C 1 6 = 0 → (∃ C' M', pX7_copy_b24 N C (nI cnt) (nI a) (nI b) (nI j) = some C' ∧ RE C' M' ∧ INV M' ∧ CA C C' ∧ MA M M' ∧ pX9_copy_b73 N M (nI cnt) (nI a) (nI b) (nI j) = bn (pX9_drop M' 5) fun M1 => bn (pX9_on M1 1) fun M2 => some M2) ∨ (∃ C' M', pX7_copy_b24 N C (nI cnt) (nI a) (nI b) (nI j) = some C' ∧ pX9_copy_b73 N M (nI cnt) (nI a) (nI b) (nI j) = some M' ∧ RFin C' M') := by
  induction n with
  | zero =>
    intro N j C M hj hN hre hinv hp c5 c6
    obtain ⟨m, rfl⟩ : ∃ m, N = m + 1 := ⟨N - 1, by omega⟩
    have e : nI cnt ≤ nI j := (nI_leI (by omega) (by omega)).mpr (by omega)
    left
    exact ⟨C, M, by rw [pX7_copy_b24, if_pos e], hre, hinv, CA.rf, MA.rf, by rw [pX9_copy_b73, if_pos e]⟩
  | succ n ih =>
    intro N j C M hj hN hre hinv hp c5 c6
    obtain ⟨m, rfl⟩ : ∃ m, N = m + 1 := ⟨N - 1, by omega⟩
    have e : ¬ nI cnt ≤ nI j := fun q => by have := (nI_leI (by omega) (by omega)).mp q; omega
    rw [pX7_copy_b24, pX9_copy_b73, if_neg e, if_neg e]
    rcases wr hre hp with ⟨v, w1, w2⟩ | ⟨w1, w2⟩
    · rw [w1, w2, bn2_s, bn2_s, if_neg (show ¬ (1 : Int32) = 0 by decide), if_neg (show ¬ (1 : Int32) = 0 by decide), nI_add, nI_add]
      have g1 : inb (nI (a + j)) 240 = true := inb_nI (by omega) (by decide)
      have g2 : inb (nI (b + j)) 240 = true := inb_nI (by omega) (by decide)
      simp only [gd_t g1, gd_t g2, ix_nI (show a + j < 2 ^ 31 by omega), ix_nI (show b + j < 2 ^ 31 by omega), lt_s', nI_1]
      have c55 : (up2 C 3 1 v) 55 = M 9 := hre.r (by decide +kernel)
      rw [c55, show (up2 M 0 12 v) 9 = M 9 from rfl]
      have h2 : RE (up2 (up2 C 3 1 v) 55 (b + j) (M 9 (a + j))) (up2 (up2 M 0 12 v) 9 (b + j) (M 9 (a + j))) := (hre.tear v).row (by decide +kernel) _ _
      rcases ih m (j + 1) _ _ (by omega) (by omega) h2 ((hinv.tear v).cell _ _) hp c5 c6 with ⟨C', M', q1, q2, q3, q4, q5, q6⟩ | q
      · left
        refine ⟨C', M', q1, q2, q3, ?_, ?_, q6⟩
        · have h3 : CA C (up2 (up2 C 3 1 v) 55 (b + j) (M 9 (a + j))) := (CA.rf.up (by decide)).up (by decide)
          exact ⟨fun z z1 z2 => (q4.1 z z1 z2).trans (h3.1 z z1 z2), q4.2.trans h3.2⟩
        · have h3 : MA M (up2 (up2 M 0 12 v) 9 (b + j) (M 9 (a + j))) := (MA.rf.up (by decide)).upr (by decide) (by decide)
          exact ⟨fun z z1 => (q5.1 z z1).trans (h3.1 z z1), fun z z1 => (q5.2 z z1).trans (h3.2 z z1)⟩
      · exact Or.inr q
    · rw [w1, w2, bn2_s, bn2_s, if_pos rfl, if_pos rfl]
      exact Or.inr ⟨_, _, rfl, rfl, (hre.tear _).both (by decide +kernel) _, hinv.off _, Or.inr ⟨rfl, c5, c6⟩⟩
theorem op_35 {C M : St} {k h p : Nat} (e : EX C M k h p 35 1) (ht : 5 ≤ h) : OUT (pX6_useObjects C 35) (mgo M (bn (pX9_at M 4) fun r14 => bn (pX9_at M 3) fun r15 => bn (pX9_at M 2) fun r16 => bn (pX9_at M 1) fun r17 => bn (pX9_at M 0) fun r18 => bn (pX9_copyFault M r14 r15 r16 r17 r18) fun r19 => some r19)) := by
  obtain ⟨n, rfl⟩ : ∃ n, h = n + 5 := ⟨h - 5, by omega⟩
  have hk := e.k
  have h16 := e.h16
  obtain ⟨a2, a51, a52, a53, a54, a55, a24, aow⟩ := e.rows (nI n)
  obtain ⟨on, oc, h4, h40, hc, en, ec, ho⟩ := e.obj
  have re0 : RE (up2 C (27 + k) 2 (nI n)) M := e.1.1.1.D0 hk _
  have m0 := mat (M := M) (x := 0) (j := 0) (n := n + 4) e.m e.k e.mh h16 rfl (by omega)
  have m1 := mat (M := M) (x := 1) (j := 1) (n := n + 3) e.m e.k e.mh h16 rfl (by omega)
  have m2 := mat (M := M) (x := 2) (j := 2) (n := n + 2) e.m e.k e.mh h16 rfl (by omega)
  have m3 := mat (M := M) (x := 3) (j := 3) (n := n + 1) e.m e.k e.mh h16 rfl (by omega)
  have m4 := mat (M := M) (x := 4) (j := 4) (n := n) e.m e.k e.mh h16 rfl (by omega)
  rw [m4, bn_s, m3, bn_s, m2, bn_s, m1, bn_s, m0, bn_s, bn_eta, show pX6_useObjects C 35 = (bn2 (pX6_copyCells C) fun r1 M1 => some (r1, M1)) from rfl, bn2_eta]
  unfold pX6_copyCells
  rw [ic_of _ e.f hk (by omega), e.pop0 (n := n + 4) rfl, bn2_s, ic_of _ (e.d _) hk (by omega), e.pop1 (n := n + 3) rfl (by omega), bn2_s, ic_of _ (e.d _) hk (by omega), e.pop1 (n := n + 2) rfl (by omega), bn2_s, ic_of _ (e.d _) hk (by omega), e.pop1 (n := n + 1) rfl (by omega), bn2_s, ic_of _ (e.d _) hk (by omega), e.pop1 (n := n) rfl (by omega), bn2_s, ic_of _ (e.d _) hk (by omega), aow]
  have sv : ∀ j, j < n + 5 → S16 (M 18 (16 * k + j)) := fun j hj => (e.st hj).2
  have S1 := sv (n + 1) (by omega)
  have S3 := sv (n + 3) (by omega)
  have S4 := sv (n + 4) (by omega)
  generalize M 18 (16 * k + n) = x0 at m4 ⊢
  generalize M 18 (16 * k + (n + 1)) = x1 at S1 m3 ⊢
  generalize M 18 (16 * k + (n + 2)) = x2 at m2 ⊢
  generalize M 18 (16 * k + (n + 3)) = x3 at S3 m1 ⊢
  generalize M 18 (16 * k + (n + 4)) = x4 at S4 m0 ⊢
  rcases copyF (C := up2 C (27 + k) 2 (nI n)) (o := M 14 k) (x := x0) (x' := x2) e.m hk rfl a51 a52 a53 a24 trivial en h40 ho S1 S3 S4 with ⟨f, f1, f2, f3⟩ | ⟨z, s, b, y, z', s', b', y', m, e0, e2, zl, zl', e1, e3, e4, b8, b8', ys, ys', bs, bs', s16, s16', f2, f3⟩
  · rw [f2, f3, bn_s]
    have ff : S16 f ∧ ¬ f ≤ 0 ∧ ¬ f = 65536 := by
      rcases f1 with h | h | h | h | h <;> subst h
      · exact ⟨S16_nI (n := 2) (by decide), by decide, by decide⟩
      · exact ⟨S16_nI (n := 3) (by decide), by decide, by decide⟩
      · exact ⟨S16_nI (n := 4) (by decide), by decide, by decide⟩
      · exact ⟨S16_nI (n := 8) (by decide), by decide, by decide⟩
      · exact ⟨S16_nI (n := 11) (by decide), by decide, by decide⟩
    rw [if_neg ff.2.2]
    exact OUT.thr ff.1 rfl (mgo_f M ff.2.1) (e.1.1.ch _)
  · rw [f2, f3, bn_s, if_pos rfl, mgo_0 e, show pX9_act M (nI 35) = (bn (pX9_copy M) fun M6 => some M6) from rfl, bn_eta]
    subst e0 e1 e2 e3 e4
    unfold pX9_copy
    have c12 : (up2 C (27 + k) 2 (nI n)) 1 12 = M 0 31 := by rw [up2_row _ _ _ _ _ (by omega)]; exact e.1.1.2.2.2.1.1
    have c7 : (up2 C (27 + k) 2 (nI n)) 1 7 = M 0 32 := re0.s (by decide +kernel)
    have c5 : (up2 C (27 + k) 2 (nI n)) 1 5 = 0 := (re0.s (a := 1) (j := 5) (b := 0) (i := 33) (by decide +kernel)).trans e.1.1.2.2.2.1.2.2.2.1
    have c6 : (up2 C (27 + k) 2 (nI n)) 1 6 = 0 := (re0.s (a := 1) (j := 6) (b := 0) (i := 34) (by decide +kernel)).trans e.1.1.2.2.2.1.2.2.2.2.1
    have hp : M 0 11 = 1 := e.1.1.2.2.2.1.2.2.2.2.2
    rw [m0, bn_s, c12, c7]
    by_cases fu : nI m ≤ M 0 31 - M 0 32
    · rw [if_pos fu, if_pos fu, m4, bn_s, m3, bn_s, m2, bn_s, m1, bn_s]
      have g1 : inb (nI z) 41 = true := inb_nI zl (by decide)
      have g2 : inb (nI z') 41 = true := inb_nI zl' (by decide)
      unfold pX7_copy
      simp only [gd_t g1, gd_t g2, ix_nI (show z < 2 ^ 31 by omega), ix_nI (show z' < 2 ^ 31 by omega), lt_s']
      rw [show (up2 (up2 C (27 + k) 2 (nI n)) 1 7 (M 0 32 + nI m)) 54 = M 8 from a54, b8, b8', nI_add, nI_add]
      have hre1 : RE (up2 (up2 C (27 + k) 2 (nI n)) 1 7 (M 0 32 + nI m)) (up2 M 0 32 (M 0 32 + nI m)) := re0.both (by decide +kernel) _
      have hD : up2 (up2 C (27 + k) 2 (nI n)) 1 7 (M 0 32 + nI m) = up2 (up2 C 1 7 (M 0 32 + nI m)) (27 + k) 2 (nI n) := up2_comm _ _ _ (Or.inl (by omega))
      have r0 := e.1.used (M 0 32 + nI m)
      have cl := cloop (b + y) (b' + y') m (by omega) (by omega) m LF 0 _ _ (by omega) (by unfold LF; omega) hre1 (show INV (up2 M 0 32 (M 0 32 + nI m)) from e.1.1.2.1) hp c5 c6
      rcases cl with ⟨C', M', q1, q2, q3, q4, q5, q6⟩ | ⟨C', M', q1, q2, q3⟩
      · rw [show (0 : Int32) = nI 0 from rfl, q1, q6, bn_s]
        rw [hD] at q4
        have r1 := r0.dropAg (n := n) (by omega) q2 q3 q4 q5
        have n24 : M' 0 24 = nI (k + 1) := (q5.2 24 (by omega)).trans e.m
        have n19 : M' 19 k = nI (n + 5) := by rw [q5.1 _ (by decide)]; exact e.mh
        have n15 : M' 15 k = nI p := by rw [q5.1 _ (by decide)]; exact e.mp
        rw [mdrop (x := 5) n24 hk n19 (n := 5) rfl (by omega), bn_s, Nat.add_sub_cancel, bn_eta, mon (M := up2 M' 19 k (nI n)) (k := k) n24 hk]
        refine OUT.go rfl rfl ⟨r1.mp _, ?_⟩
        rw [up2_at, show (up2 M' 19 k (nI n)) 15 k = nI p from n15, q4.1 _ (by omega) (by omega), nI_1, up2_cell _ _ _ _ _ _ (Or.inr (by decide)), up2_cell _ _ _ _ _ _ (Or.inl (by omega)), e.cp]
      · rw [show (0 : Int32) = nI 0 from rfl, q1, q2, bn_s]
        exact OUT.fin rfl rfl q3
    · rw [if_neg fu, if_neg fu]
      refine OUT.fin rfl rfl ⟨(re0.left (a := 1) (j := 13) (by decide +kernel) (by decide +kernel) _).right (b := 0) (i := 35) (by decide +kernel) (by decide +kernel) _, e.1.1.2.1, Or.inl ⟨hp, rfl, Or.inr (Or.inl rfl)⟩⟩
