/-! PART II, what an instruction comes to, on both sides -/
def RFin (C M : St) : Prop := RE C M ∧ INV M ∧ ((M 0 11 = 1 ∧ C 1 13 = M 0 35 ∧ (M 0 35 = 0 ∨ M 0 35 = 10 ∨ M 0 35 = 20)) ∨ (M 0 11 = 0 ∧ C 1 5 = 0 ∧ C 1 6 = 0))
def RS (C M : St) : Prop := (∃ k h, R3 C M k h) ∨ RFin C M
def OUT (cr : Option (Int32 × St)) (mr : Option St) : Prop := (∃ C' M', cr = some (65536, C') ∧ mr = some M' ∧ RS C' M') ∨ (∃ v C' M'' k', S16 v ∧ cr = some (v, C') ∧ mr = pX9_throwIt M'' v ∧ R1 C' M'' k')
def EX (C M : St) (k h p j len : Nat) : Prop := R2 C M k h ∧ C 1 11 = nI p ∧ M 15 k = nI p ∧ M 1 p = nI j ∧ p + len ≤ 512 ∧ C (27 + k) 4 = nI (p + len) ∧ 1 ≤ len
theorem OUT.go {cr : Option (Int32 × St)} {mr : Option St} {C' M' : St} {k h : Nat} (h1 : cr = some (65536, C')) (h2 : mr = some M') (h3 : R3 C' M' k h) : OUT cr mr := Or.inl ⟨C', M', h1, h2, Or.inl ⟨k, h, h3⟩⟩
theorem OUT.fin {cr : Option (Int32 × St)} {mr : Option St} {C' M' : St} (h1 : cr = some (65536, C')) (h2 : mr = some M') (h3 : RFin C' M') : OUT cr mr := Or.inl ⟨C', M', h1, h2, Or.inr h3⟩
theorem OUT.thr {cr : Option (Int32 × St)} {mr : Option St} {C' M' : St} {k : Nat} {v : Int32} (hv : S16 v) (h1 : cr = some (v, C')) (h2 : mr = pX9_throwIt M' v) (h3 : R1 C' M' k) : OUT cr mr := Or.inr ⟨v, C', M', k, hv, h1, h2, h3⟩
theorem bn_eta {α : Type} (x : Option α) : (bn x fun y => some y) = x := by cases x <;> rfl
theorem bn2_eta {α β : Type} (x : Option (α × β)) : (bn2 x fun a b => some (a, b)) = x := by cases x <;> rfl
def mgo (M : St) (f : Option Int32) : Option St := bn f fun r1 => if r1 ≤ 0 then bn (pX9_byteAt M 0) fun r2 => bn (pX9_act M r2) fun M2 => some M2 else bn (pX9_throwIt M r1) fun M3 => some M3
theorem R1.f {C M : St} {k : Nat} (h : R1 C M k) : C 1 10 = nI k := h.2.2.1.2.2.2
theorem R1.m {C M : St} {k : Nat} (h : R1 C M k) : M 0 24 = nI (k + 1) := h.2.2.1.2.2.1
theorem R1.k {C M : St} {k : Nat} (h : R1 C M k) : k < 8 := h.2.2.1.1
theorem mgo_0 {C M : St} {k h p j len : Nat} (x : EX C M k h p j len) : mgo M (some 0) = pX9_act M (nI j) := by
  unfold mgo
  rw [bn_s, if_pos (by decide), mbyte (x := 0) (j := 0) x.1.1.m x.1.1.k x.2.2.1 rfl (by have := x.2.2.2.2.1; have := x.2.2.2.2.2.2; omega), bn_s, bn_eta]
  rw [Nat.add_zero, x.2.2.2.1]
theorem mgo_f (M : St) {v : Int32} (hv : ¬ v ≤ 0) : mgo M (some v) = pX9_throwIt M v := by
  unfold mgo
  rw [bn_s, if_neg hv, bn_eta]
/-- n values are left, then v is put -/
def cP (C : St) (k n : Nat) (v : Int32) : St := up2 (up2 (up2 C (27 + k) 2 (nI n)) (43 + k) n v.toInt16.toInt32) (27 + k) 2 (nI (n + 1))
def mP (M : St) (k n : Nat) (v p : Int32) : St := up2 (up2 (up2 (up2 M 19 k (nI n)) 18 (16 * k + n) v.toInt16.toInt32) 19 k (nI (n + 1))) 15 k p
theorem cput_d {C : St} {k n : Nat} (hf : C 1 10 = nI k) (hk : k < 8) (h16 : n < 16) (v : Int32) : pX6_put (up2 C (27 + k) 2 (nI n)) v = some (65536, cP C k n v) :=
  cput (C := up2 C (27 + k) 2 (nI n)) (by rw [up2_cell _ _ _ _ _ _ (Or.inl (by omega))]; exact hf) hk (up2_at _ _ _ _) h16 v
theorem cput_0 {C : St} {k n : Nat} (hf : C 1 10 = nI k) (hk : k < 8) (hh : C (27 + k) 2 = nI n) (h16 : n < 16) (v : Int32) : pX6_put C v = some (65536, cP C k n v) := by
  have e : up2 C (27 + k) 2 (nI n) = C := by rw [← hh]; exact up2_self _ _ _
  rw [← e, cput_d hf hk h16, e]
theorem P_R3 {C M : St} {k h n : Nat} {v p : Int32} (r : R2 C M k h) (hn : n ≤ h) (h16 : n < 16) (hp : C (27 + k) 4 = p) : R3 (cP C k n v) (mP M k n v p) k (n + 1) := by
  have hk := r.1.k
  refine ⟨((r.drop hn).push h16 (S16_of v)).mp p, ?_⟩
  unfold cP mP
  rw [up2_cell _ _ _ _ _ _ (Or.inr (by decide)), up2_cell _ _ _ _ _ _ (Or.inl (by omega)), up2_cell _ _ _ _ _ _ (Or.inr (by decide)), up2_at, hp]
theorem mrep {C M : St} {k h p j len d n : Nat} {x v : Int32} (e : EX C M k h p j len) (hx : x = nI d) (hd : h = n + d) (h16 : n < 16) (hlen : len = 1) : pX9_replace M x v = some (mP M k n v (nI (p + len))) := by
  have hm := e.1.1.m
  have hk := e.1.1.k
  have hh := e.1.2.2.2.1
  unfold pX9_replace
  rw [mdrop hm hk hh hx (by omega), bn_s, mput (M := up2 M 19 k (nI (h - d))) (h := n) hm hk (by rw [up2_at]; congr 1; omega) h16, bn_s]
  rw [mon (M := up2 (up2 (up2 M 19 k (nI (h - d))) 18 (16 * k + n) v.toInt16.toInt32) 19 k (nI (n + 1))) (k := k) hm hk, bn_s]
  have e3 : (up2 (up2 (up2 M 19 k (nI (h - d))) 18 (16 * k + n) v.toInt16.toInt32) 19 k (nI (n + 1))) 15 k = nI p := e.2.2.1
  rw [e3, show (1 : Int32) = nI 1 from rfl, nI_add, hlen, show h - d = n by omega]
  rfl
/-- the end of all instructions that take d values and put one, of one byte -/
theorem OUT.rep {C M : St} {k h p j len d n : Nat} {cr : Option (Int32 × St)} {mr : Option St} {v x : Int32} (e : EX C M k h p j len) (hx : x = nI d) (hd : h = n + d) (h16 : n < 16) (hlen : len = 1) (h1 : cr = some (65536, cP C k n v)) (h2 : mr = pX9_replace M x v) : OUT cr mr :=
  OUT.go h1 (h2.trans (mrep e hx hd h16 hlen)) (P_R3 e.1 (by omega) h16 e.2.2.2.2.2.1)
/-- two pops -/
theorem cpop2 {C : St} {k n : Nat} {β : Type} (hf : C 1 10 = nI k) (hk : k < 8) (hh : C (27 + k) 2 = nI (n + 2)) (h16 : n + 2 ≤ 16) (f : Int32 → St → Option β) (g : Int32 → Int32 → St → Option β) (e : ∀ r1 M1, f r1 M1 = ic (M1 1 10) 8 fun k2 => bn2 (pX2_pop M1 k2) fun r2 M2 => g r1 r2 M2) : (bn2 (pX2_pop C k) f) = g (C (43 + k) (n + 1)) (C (43 + k) n) (up2 C (27 + k) 2 (nI n)) := by
  rw [cpop hh (by omega), bn2_s, e, ic_of _ (by rw [up2_cell _ _ _ _ _ _ (Or.inl (by omega))]; exact hf) hk (by omega), cpop (up2_at _ _ _ _) (by omega), bn2_s, up2_twice, up2_cell _ _ _ _ _ _ (Or.inl (by omega))]
