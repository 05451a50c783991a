/-! PART II, a step: what is looked at first, then the 46 instructions put together -/
def SX (C M : St) (k h p j : Nat) : Prop := R2 C M k h ∧ C 1 11 = nI p ∧ M 15 k = nI p ∧ M 1 p = nI j ∧ p < 512
def dsp (k2 : Nat) (M3 : St) : Option (Int32 × St) :=
  if (opKind.getD k2 0).toInt < 0 ∨ 6 < (opKind.getD k2 0).toInt then
    bn2 (pX6_throwOrHandle M3 k2) fun r2 M4 => some (r2, M4)
  else if (opKind.getD k2 0) = 0 then
    bn2 (pX6_move M3 k2) fun r3 M5 => some (r3, M5)
  else if (opKind.getD k2 0) = 1 then
    bn2 (pX6_reckon M3 k2) fun r4 M6 => some (r4, M6)
  else if (opKind.getD k2 0) = 2 then
    bn2 (pX6_jump M3 k2) fun r5 M7 => some (r5, M7)
  else if (opKind.getD k2 0) = 3 then
    bn2 (pX6_callOrEnd M3 k2) fun r6 M8 => some (r6, M8)
  else if (opKind.getD k2 0) = 4 then
    bn2 (pX6_useObjects M3 k2) fun r7 M9 => some (r7, M9)
  else if (opKind.getD k2 0) = 5 then
    bn2 (pX6_changeTransaction M3 k2) fun r8 M10 => some (r8, M10)
  else if (opKind.getD k2 0) = 6 then
    bn2 (pX6_talk M3 k2) fun r9 M11 => some (r9, M11)
  else none
def cst (C : St) : Option (Int32 × St) := bn (pX6_fetchFault C) fun r1 => if r1 = 65536 then gd (inb (C 1 11) 512) <| ic (C 4 (ix (C 1 11))) 46 fun k2 => ic (C 1 10) 8 fun k3 => lt (up2 C (27 + k3) 4 ((C 1 11) + (opLength.getD k2 0))) fun M3 => dsp k2 M3 else some (r1, C)
theorem cst_eq (C : St) : pX6_step C = lt (up2 C 1 7 ((C 1 7) + 1)) fun M1 => ic (M1 1 10) 8 fun k1 => lt (up2 M1 1 11 (M1 (27 + k1) 4)) fun M2 => cst M2 := rfl
def RM (C : St) (k j : Nat) : Option Int32 := if j = 28 then some 65536 else if j = 29 then some 65536 else bn (pX2_hasRoom C k ((opPuts.getD j 0) - (opTakes.getD j 0))) fun r1 => if r1 = 0 then some 6 else some 65536
def BR (M : St) (r7 : Int32) : Option Int32 :=
    if r7 = 30 then
      pX9_fault_b94 M r7
    else
      if r7 = 31 then
        pX9_fault_b94 M r7
      else
        if r7 = 32 then
          pX9_fault_b94 M r7
        else
          if r7 = 34 then
            pX9_fault_b94 M r7
          else
            if r7 = 35 then
              bn (pX9_at M 4) fun r14 =>
              bn (pX9_at M 3) fun r15 =>
              bn (pX9_at M 2) fun r16 =>
              bn (pX9_at M 1) fun r17 =>
              bn (pX9_at M 0) fun r18 =>
              bn (pX9_copyFault M r14 r15 r16 r17 r18) fun r19 =>
              some r19
            else
              if r7 = 24 then
                pX9_fault_b248 M r7
              else
                if r7 = 27 then
                  pX9_fault_b248 M r7
                else
                  if r7 = 28 then
                    pX9_fault_b332 M
                  else
                    if r7 = 29 then
                      pX9_fault_b332 M
                    else
                      if r7 = 9 then
                        bn (pX9_at M 0) fun r10 =>
                        if r10 = 0 then
                          some 1
                        else
                          some 0
                      else
                        if r7 = 10 then
                          bn (pX9_at M 0) fun r13 =>
                          if r13 = 0 then
                            some 1
                          else
                            some 0
                        else
                          if r7 = 36 then
                            pX9_fault_b464 M r7
                          else
                            if r7 = 37 then
                              pX9_fault_b464 M r7
                            else
                              if r7 = 38 then
                                pX9_fault_b464 M r7
                              else
                                if r7 = 40 then
                                  bn (pX9_at M 0) fun r11 =>
                                  bn (pX9_isIn r11 0 ((M 0 21) - 1)) fun r12 =>
                                  if r12 = 0 then
                                    some 3
                                  else
                                    some 0
                                else
                                  if r7 = 42 then
                                    if M 0 23 = 32 then
                                      some 6
                                    else
                                      some 0
                                  else
                                    if r7 = 1 then
                                      pX9_fault_b580 M
                                    else
                                      if r7 = 2 then
                                        pX9_fault_b580 M
                                      else
                                        if r7 = 3 then
                                          pX9_fault_b580 M
                                        else
                                          if r7 = 18 then
                                            pX9_fault_b580 M
                                          else
                                            if r7 = 33 then
                                              pX9_fault_b580 M
                                            else
                                              if r7 = 39 then
                                                pX9_fault_b580 M
                                              else
                                                if r7 = 41 then
                                                  pX9_fault_b580 M
                                                else
                                                  some 0
theorem cfetch {C M : St} {k h p j : Nat} (e : SX C M k h p j) (hj : j < 46) : pX6_fetchFault C = if nI p + opLength.getD j 0 ≤ 512 then (if opTakes.getD j 0 ≤ nI h then RM C k j else some 6) else some 7 := by
  obtain ⟨r, ha, hp, hm, hl⟩ := e
  have gp : inb (nI p) 512 = true := inb_nI hl (by decide)
  have cd : C 4 = M 1 := r.1.1.r (by decide +kernel)
  unfold pX6_fetchFault
  rw [ha, if_neg (nI_pos (by omega)), if_neg (show ¬ (512 : Int32) ≤ nI p from nI_ge (b := 512) hl (by decide)), gd_t gp, ix_nI (show p < 2 ^ 31 by omega), cd, hm, if_pos (show nI j < (46 : Int32) from nI_lt (b := 46) hj (by decide)), gd_t gp, ic_nI _ hj (by decide), ic_of _ r.1.f r.1.k (by decide), r.2.2.1, ic_of _ r.1.f r.1.k (by decide)]
  rfl
theorem mfetch {C M : St} {k h p j l : Nat} (e : SX C M k h p j) (hj : j < 46) (hl : pX9_length (nI j) = some (nI l)) : pX9_fault M = if nI p + nI l ≤ 512 then (bn (pX9_takes M (nI j)) fun r9 => if r9 ≤ nI h then BR M (nI j) else some 6) else some 7 := by
  obtain ⟨r, ha, hp, hm, hlt⟩ := e
  have mb : pX9_byteAt M 0 = some (nI j) := by rw [mbyte (x := 0) (j := 0) r.1.m r.1.k hp rfl (by omega)]; exact congrArg some hm
  unfold pX9_fault
  rw [mhere r.1.m r.1.k, bn_s, hp, if_neg (nI_pos (by omega)), bn_s, if_neg (show ¬ (512 : Int32) ≤ nI p from nI_ge (b := 512) hlt (by decide)), mb, bn_s, if_neg (show ¬ (45 : Int32) < nI j from nI_nlt (a := 45) (by omega) (by decide)), bn_s, bn_s, hl, bn_s, bn_s, mdepth r.1.m r.1.k r.2.2.2.1, bn_s]
  rfl
theorem plen {p l : Nat} (hp : p < 512) (hl : l ≤ 3) : (nI p + nI l ≤ 512) ↔ p + l ≤ 512 := by
  rw [nI_add]
  exact nI_leI (b := 512) (by omega) (by decide)
theorem SX.ex {C M : St} {k h p j l : Nat} (e : SX C M k h p j) (h1 : 1 ≤ l) (h2 : p + l ≤ 512) : EX (up2 C (27 + k) 4 (nI (p + l))) M k h p j l := by
  obtain ⟨r, ha, hp, hm, hlt⟩ := e
  refine ⟨r.cp _, ?_, hp, hm, h2, up2_at _ _ _ _, h1⟩
  rw [up2_cell _ _ _ _ _ _ (Or.inl (by omega))]; exact ha
theorem SX.cst7 {C M : St} {k h p j l : Nat} (e : SX C M k h p j) (hf : pX6_fetchFault C = some 65536) (hj : j < 46) (hl : opLength.getD j 0 = nI l) : cst C = dsp j (up2 C (27 + k) 4 (nI (p + l))) := by
  obtain ⟨r, ha, hp, hm, hlt⟩ := e
  have cd : C 4 = M 1 := r.1.1.r (by decide +kernel)
  unfold cst
  rw [hf, bn_s, if_pos rfl, ha, gd_t (inb_nI hlt (by decide)), ix_nI (by omega), cd, hm, ic_nI _ hj (by decide), ic_of _ r.1.f r.1.k (by decide), lt_s', hl, nI_add]
theorem SX.cstf {C : St} {v : Int32} (hf : pX6_fetchFault C = some v) (hv : ¬ v = 65536) : cst C = some (v, C) := by
  unfold cst
  rw [hf, bn_s, if_neg hv]
theorem st_ord {C M : St} {k h p j l t : Nat} {X : St → Option (Int32 × St)} {OKR : Prop} (e : SX C M k h p j) (hj : j < 46) (hl : opLength.getD j 0 = nI l) (hml : pX9_length (nI j) = some (nI l)) (l1 : 1 ≤ l) (l3 : l ≤ 3) (ht : opTakes.getD j 0 = nI t) (hmt : pX9_takes M (nI j) = some (nI t)) (t5 : t ≤ 5) (hroom : t ≤ h → (RM C k j = some 65536 ∧ OKR) ∨ (RM C k j = some 6 ∧ BR M (nI j) = some 6)) (hd : ∀ D, dsp j D = X D)
    (op : EX (up2 C (27 + k) 4 (nI (p + l))) M k h p j l → t ≤ h → OKR → OUT (X (up2 C (27 + k) 4 (nI (p + l)))) (mgo M (BR M (nI j)))) : OUT (cst C) (mgo M (pX9_fault M)) := by
  have cf := cfetch e hj
  have h16 := e.1.2.1
  rw [hl, ht] at cf
  rw [mfetch e hj hml, hmt, bn_s]
  by_cases c1 : p + l ≤ 512
  · have c1' := (plen e.2.2.2.2 l3).mpr c1
    rw [if_pos c1'] at cf ⊢
    by_cases c2 : t ≤ h
    · have c2' : nI t ≤ nI h := nI_le c2 (by omega)
      rw [if_pos c2'] at cf ⊢
      rcases hroom c2 with ⟨q1, q2⟩ | ⟨q1, q2⟩
      · rw [q1] at cf
        rw [e.cst7 cf hj hl, hd]
        exact op (e.ex l1 c1) c2 q2
      · rw [q1] at cf
        rw [SX.cstf cf (by decide), q2]
        exact OUT.thr (S16_nI (n := 6) (by decide)) rfl (mgo_f M (by decide)) e.1.1
    · have c2' : ¬ nI t ≤ nI h := nI_ge (by omega) (by omega)
      rw [if_neg c2'] at cf ⊢
      rw [SX.cstf cf (by decide)]
      exact OUT.thr (S16_nI (n := 6) (by decide)) rfl (mgo_f M (by decide)) e.1.1
  · have c1' : ¬ nI p + nI l ≤ 512 := fun q => c1 ((plen e.2.2.2.2 l3).mp q)
    rw [if_neg c1'] at cf ⊢
    rw [SX.cstf cf (by decide)]
    exact OUT.thr (S16_nI (n := 7) (by decide)) rfl (mgo_f M (by decide)) e.1.1
theorem st_call {C M : St} {k h p j : Nat} (e : SX C M k h p j) (hj : j = 24 ∨ j = 27) : OUT (cst C) (mgo M (pX9_fault M)) := by
  have h16 := e.1.2.1
  have hj46 : j < 46 := by omega
  have hl : opLength.getD j 0 = nI 3 := by rcases hj with rfl | rfl <;> rfl
  have hml : pX9_length (nI j) = some (nI 3) := by rcases hj with rfl | rfl <;> rfl
  have ht : opTakes.getD j 0 = nI 0 := by rcases hj with rfl | rfl <;> rfl
  have hrm : RM C k j = some 65536 := by
    rw [show RM C k j = bn (pX2_hasRoom C k (nI 0 - nI 0)) fun r1 => if r1 = 0 then some 6 else some 65536 from by rcases hj with rfl | rfl <;> rfl]
    unfold pX2_hasRoom
    rw [e.1.2.2.1, nI_subN (Nat.le_refl 0), nI_add, if_neg (show ¬ (16 : Int32) < nI (h + (0 - 0)) from nI_nlt (b := h + (0 - 0)) (a := 16) (by omega) (by decide)), bn_s, if_neg (by decide)]
  have htk : pX9_takes M (nI j) = bn (pX9_byteAt M 2) fun r1 => some (r1 - r1 / 9 * 9) := by rcases hj with rfl | rfl <;> rfl
  have hbr : BR M (nI j) = pX9_fault_b248 M (nI j) := by rcases hj with rfl | rfl <;> rfl
  have hd : ∀ D, dsp j D = pX6_callOrEnd D j := fun D => by
    rcases hj with rfl | rfl
    · exact (show dsp 24 D = (bn2 (pX6_callOrEnd D 24) fun r6 M8 => some (r6, M8)) from rfl).trans (bn2_eta _)
    · exact (show dsp 27 D = (bn2 (pX6_callOrEnd D 27) fun r6 M8 => some (r6, M8)) from rfl).trans (bn2_eta _)
  have cf := cfetch e hj46
  rw [hl, ht, if_pos (show nI 0 ≤ nI h from nI_le (Nat.zero_le _) (by omega)), hrm] at cf
  rw [mfetch e hj46 hml, htk, hbr]
  by_cases c1 : p + 3 ≤ 512
  · have c1' := (plen e.2.2.2.2 (Nat.le_refl 3)).mpr c1
    rw [if_pos c1'] at cf ⊢
    rw [e.cst7 cf hj46 hl, hd]
    exact op_call hj (e.ex (by decide) c1)
  · have c1' : ¬ nI p + nI 3 ≤ 512 := fun q => c1 ((plen e.2.2.2.2 (Nat.le_refl 3)).mp q)
    rw [if_neg c1'] at cf ⊢
    rw [SX.cstf cf (by decide)]
    exact OUT.thr (S16_nI (n := 7) (by decide)) rfl (mgo_f M (by decide)) e.1.1
/-- no more is put than is taken: there is room -/
theorem rm_le {C M : St} {k h p j u t : Nat} (e : SX C M k h p j) (hut : u ≤ t) (hth : t ≤ h) (hr : RM C k j = bn (pX2_hasRoom C k (nI u - nI t)) fun r1 => if r1 = 0 then some 6 else some 65536) : RM C k j = some 65536 := by
  have h16 := e.1.2.1
  rw [hr]
  unfold pX2_hasRoom
  have q : nI h + (nI u - nI t) = nI (h + u - t) := by
    apply Int32.toInt_inj.mp
    rw [Int32.toInt_add, Int32.toInt_sub, nI_toInt (by omega), nI_toInt (by omega), nI_toInt (by omega), nI_toInt (by omega), Int.bmod_def, Int.bmod_def]
    omega
  rw [e.1.2.2.1, q, if_neg (show ¬ (16 : Int32) < nI (h + u - t) from nI_nlt (b := h + u - t) (a := 16) (by omega) (by decide)), bn_s, if_neg (by decide)]
theorem rm_1 {C M : St} {k h p j t : Nat} (e : SX C M k h p j) (t5 : t ≤ 5) (hr : RM C k j = bn (pX2_hasRoom C k (nI (t + 1) - nI t)) fun r1 => if r1 = 0 then some 6 else some 65536) (hb : BR M (nI j) = pX9_fault_b580 M) : (RM C k j = some 65536 ∧ h < 16) ∨ (RM C k j = some 6 ∧ BR M (nI j) = some 6) := by
  have h16 := e.1.2.1
  rw [hr, hb, nI_subN (by omega), show t + 1 - t = 1 by omega, show pX2_hasRoom C k (nI 1) = _ from chasRoom e.1.2.2.1 h16, bn_s]
  unfold pX9_fault_b580
  rw [mdepth e.1.1.m e.1.1.k e.1.2.2.2.1, bn_s]
  by_cases w : h = 16
  · right
    rw [if_pos w, if_pos rfl, if_pos (by rw [w]; rfl)]
    exact ⟨rfl, rfl⟩
  · left
    rw [if_neg w, if_neg (by decide)]
    exact ⟨rfl, by omega⟩
theorem b580_0 {C M : St} {k h p j len : Nat} (e : EX C M k h p j len) (w : h < 16) : pX9_fault_b580 M = some 0 := by
  unfold pX9_fault_b580
  rw [mdepth e.m e.k e.mh, bn_s, if_neg (show ¬ nI h = 16 from fun q => absurd (nI_eqI (b := 16) (by omega) (by omega) q) (by omega))]
theorem st_0 {C M : St} {k h p : Nat} (e : SX C M k h p 0) : OUT (cst C) (mgo M (pX9_fault M)) :=
  st_ord (l := 1) (t := 0) (X := fun D => pX6_move D 0) (OKR := True) e (by decide) rfl rfl (by decide) (by decide) rfl rfl (by decide) (fun c => Or.inl ⟨rm_le (u := 0) (t := 0) e (by decide) c rfl, trivial⟩) (fun D => (show dsp 0 D = (bn2 (pX6_move D 0) fun r M => some (r, M)) from rfl).trans (bn2_eta _)) (fun e' ht ok => op_0 e')
theorem st_1 {C M : St} {k h p : Nat} (e : SX C M k h p 1) : OUT (cst C) (mgo M (pX9_fault M)) :=
  st_ord (l := 2) (t := 0) (X := fun D => pX6_move D 1) (OKR := h < 16) e (by decide) rfl rfl (by decide) (by decide) rfl rfl (by decide) (fun _ => rm_1 (t := 0) e (by decide) rfl rfl) (fun D => (show dsp 1 D = (bn2 (pX6_move D 1) fun r M => some (r, M)) from rfl).trans (bn2_eta _)) (fun e' ht ok => by rw [show BR M (nI 1) = some 0 from (show BR M (nI 1) = pX9_fault_b580 M from rfl).trans (b580_0 e' ok)]; exact op_1 e' ok)
theorem st_2 {C M : St} {k h p : Nat} (e : SX C M k h p 2) : OUT (cst C) (mgo M (pX9_fault M)) :=
  st_ord (l := 3) (t := 0) (X := fun D => pX6_move D 2) (OKR := h < 16) e (by decide) rfl rfl (by decide) (by decide) rfl rfl (by decide) (fun _ => rm_1 (t := 0) e (by decide) rfl rfl) (fun D => (show dsp 2 D = (bn2 (pX6_move D 2) fun r M => some (r, M)) from rfl).trans (bn2_eta _)) (fun e' ht ok => by rw [show BR M (nI 2) = some 0 from (show BR M (nI 2) = pX9_fault_b580 M from rfl).trans (b580_0 e' ok)]; exact op_2 e' ok)
theorem st_3 {C M : St} {k h p : Nat} (e : SX C M k h p 3) : OUT (cst C) (mgo M (pX9_fault M)) :=
  st_ord (l := 2) (t := 0) (X := fun D => pX6_move D 3) (OKR := h < 16) e (by decide) rfl rfl (by decide) (by decide) rfl rfl (by decide) (fun _ => rm_1 (t := 0) e (by decide) rfl rfl) (fun D => (show dsp 3 D = (bn2 (pX6_move D 3) fun r M => some (r, M)) from rfl).trans (bn2_eta _)) (fun e' ht ok => by rw [show BR M (nI 3) = some 0 from (show BR M (nI 3) = pX9_fault_b580 M from rfl).trans (b580_0 e' ok)]; exact op_3 e' ok)
theorem st_4 {C M : St} {k h p : Nat} (e : SX C M k h p 4) : OUT (cst C) (mgo M (pX9_fault M)) :=
  st_ord (l := 2) (t := 1) (X := fun D => pX6_move D 4) (OKR := True) e (by decide) rfl rfl (by decide) (by decide) rfl rfl (by decide) (fun c => Or.inl ⟨rm_le (u := 0) (t := 1) e (by decide) c rfl, trivial⟩) (fun D => (show dsp 4 D = (bn2 (pX6_move D 4) fun r M => some (r, M)) from rfl).trans (bn2_eta _)) (fun e' ht ok => op_4 e' ht)
theorem st_5 {C M : St} {k h p : Nat} (e : SX C M k h p 5) : OUT (cst C) (mgo M (pX9_fault M)) :=
  st_ord (l := 3) (t := 0) (X := fun D => pX6_move D 5) (OKR := True) e (by decide) rfl rfl (by decide) (by decide) rfl rfl (by decide) (fun c => Or.inl ⟨rm_le (u := 0) (t := 0) e (by decide) c rfl, trivial⟩) (fun D => (show dsp 5 D = (bn2 (pX6_move D 5) fun r M => some (r, M)) from rfl).trans (bn2_eta _)) (fun e' ht ok => op_5 e')
theorem st_6 {C M : St} {k h p : Nat} (e : SX C M k h p 6) : OUT (cst C) (mgo M (pX9_fault M)) :=
  st_ord (l := 1) (t := 2) (X := fun D => pX6_reckon D 6) (OKR := True) e (by decide) rfl rfl (by decide) (by decide) rfl rfl (by decide) (fun c => Or.inl ⟨rm_le (u := 1) (t := 2) e (by decide) c rfl, trivial⟩) (fun D => (show dsp 6 D = (bn2 (pX6_reckon D 6) fun r M => some (r, M)) from rfl).trans (bn2_eta _)) (fun e' ht ok => op_6 e' ht)
theorem st_7 {C M : St} {k h p : Nat} (e : SX C M k h p 7) : OUT (cst C) (mgo M (pX9_fault M)) :=
  st_ord (l := 1) (t := 2) (X := fun D => pX6_reckon D 7) (OKR := True) e (by decide) rfl rfl (by decide) (by decide) rfl rfl (by decide) (fun c => Or.inl ⟨rm_le (u := 1) (t := 2) e (by decide) c rfl, trivial⟩) (fun D => (show dsp 7 D = (bn2 (pX6_reckon D 7) fun r M => some (r, M)) from rfl).trans (bn2_eta _)) (fun e' ht ok => op_7 e' ht)
theorem st_8 {C M : St} {k h p : Nat} (e : SX C M k h p 8) : OUT (cst C) (mgo M (pX9_fault M)) :=
  st_ord (l := 1) (t := 2) (X := fun D => pX6_reckon D 8) (OKR := True) e (by decide) rfl rfl (by decide) (by decide) rfl rfl (by decide) (fun c => Or.inl ⟨rm_le (u := 1) (t := 2) e (by decide) c rfl, trivial⟩) (fun D => (show dsp 8 D = (bn2 (pX6_reckon D 8) fun r M => some (r, M)) from rfl).trans (bn2_eta _)) (fun e' ht ok => op_8 e' ht)
theorem st_9 {C M : St} {k h p : Nat} (e : SX C M k h p 9) : OUT (cst C) (mgo M (pX9_fault M)) :=
  st_ord (l := 1) (t := 2) (X := fun D => pX6_reckon D 9) (OKR := True) e (by decide) rfl rfl (by decide) (by decide) rfl rfl (by decide) (fun c => Or.inl ⟨rm_le (u := 1) (t := 2) e (by decide) c rfl, trivial⟩) (fun D => (show dsp 9 D = (bn2 (pX6_reckon D 9) fun r M => some (r, M)) from rfl).trans (bn2_eta _)) (fun e' ht ok => op_9 e' ht)
theorem st_10 {C M : St} {k h p : Nat} (e : SX C M k h p 10) : OUT (cst C) (mgo M (pX9_fault M)) :=
  st_ord (l := 1) (t := 2) (X := fun D => pX6_reckon D 10) (OKR := True) e (by decide) rfl rfl (by decide) (by decide) rfl rfl (by decide) (fun c => Or.inl ⟨rm_le (u := 1) (t := 2) e (by decide) c rfl, trivial⟩) (fun D => (show dsp 10 D = (bn2 (pX6_reckon D 10) fun r M => some (r, M)) from rfl).trans (bn2_eta _)) (fun e' ht ok => op_10 e' ht)
theorem st_11 {C M : St} {k h p : Nat} (e : SX C M k h p 11) : OUT (cst C) (mgo M (pX9_fault M)) :=
  st_ord (l := 1) (t := 1) (X := fun D => pX6_reckon D 11) (OKR := True) e (by decide) rfl rfl (by decide) (by decide) rfl rfl (by decide) (fun c => Or.inl ⟨rm_le (u := 1) (t := 1) e (by decide) c rfl, trivial⟩) (fun D => (show dsp 11 D = (bn2 (pX6_reckon D 11) fun r M => some (r, M)) from rfl).trans (bn2_eta _)) (fun e' ht ok => op_11 e' ht)
theorem st_12 {C M : St} {k h p : Nat} (e : SX C M k h p 12) : OUT (cst C) (mgo M (pX9_fault M)) :=
  st_ord (l := 1) (t := 2) (X := fun D => pX6_reckon D 12) (OKR := True) e (by decide) rfl rfl (by decide) (by decide) rfl rfl (by decide) (fun c => Or.inl ⟨rm_le (u := 1) (t := 2) e (by decide) c rfl, trivial⟩) (fun D => (show dsp 12 D = (bn2 (pX6_reckon D 12) fun r M => some (r, M)) from rfl).trans (bn2_eta _)) (fun e' ht ok => op_12 e' ht)
theorem st_13 {C M : St} {k h p : Nat} (e : SX C M k h p 13) : OUT (cst C) (mgo M (pX9_fault M)) :=
  st_ord (l := 1) (t := 2) (X := fun D => pX6_reckon D 13) (OKR := True) e (by decide) rfl rfl (by decide) (by decide) rfl rfl (by decide) (fun c => Or.inl ⟨rm_le (u := 1) (t := 2) e (by decide) c rfl, trivial⟩) (fun D => (show dsp 13 D = (bn2 (pX6_reckon D 13) fun r M => some (r, M)) from rfl).trans (bn2_eta _)) (fun e' ht ok => op_13 e' ht)
theorem st_14 {C M : St} {k h p : Nat} (e : SX C M k h p 14) : OUT (cst C) (mgo M (pX9_fault M)) :=
  st_ord (l := 1) (t := 2) (X := fun D => pX6_reckon D 14) (OKR := True) e (by decide) rfl rfl (by decide) (by decide) rfl rfl (by decide) (fun c => Or.inl ⟨rm_le (u := 1) (t := 2) e (by decide) c rfl, trivial⟩) (fun D => (show dsp 14 D = (bn2 (pX6_reckon D 14) fun r M => some (r, M)) from rfl).trans (bn2_eta _)) (fun e' ht ok => op_14 e' ht)
theorem st_15 {C M : St} {k h p : Nat} (e : SX C M k h p 15) : OUT (cst C) (mgo M (pX9_fault M)) :=
  st_ord (l := 1) (t := 2) (X := fun D => pX6_reckon D 15) (OKR := True) e (by decide) rfl rfl (by decide) (by decide) rfl rfl (by decide) (fun c => Or.inl ⟨rm_le (u := 1) (t := 2) e (by decide) c rfl, trivial⟩) (fun D => (show dsp 15 D = (bn2 (pX6_reckon D 15) fun r M => some (r, M)) from rfl).trans (bn2_eta _)) (fun e' ht ok => op_15 e' ht)
theorem st_16 {C M : St} {k h p : Nat} (e : SX C M k h p 16) : OUT (cst C) (mgo M (pX9_fault M)) :=
  st_ord (l := 1) (t := 2) (X := fun D => pX6_reckon D 16) (OKR := True) e (by decide) rfl rfl (by decide) (by decide) rfl rfl (by decide) (fun c => Or.inl ⟨rm_le (u := 1) (t := 2) e (by decide) c rfl, trivial⟩) (fun D => (show dsp 16 D = (bn2 (pX6_reckon D 16) fun r M => some (r, M)) from rfl).trans (bn2_eta _)) (fun e' ht ok => op_16 e' ht)
theorem st_17 {C M : St} {k h p : Nat} (e : SX C M k h p 17) : OUT (cst C) (mgo M (pX9_fault M)) :=
  st_ord (l := 1) (t := 2) (X := fun D => pX6_reckon D 17) (OKR := True) e (by decide) rfl rfl (by decide) (by decide) rfl rfl (by decide) (fun c => Or.inl ⟨rm_le (u := 1) (t := 2) e (by decide) c rfl, trivial⟩) (fun D => (show dsp 17 D = (bn2 (pX6_reckon D 17) fun r M => some (r, M)) from rfl).trans (bn2_eta _)) (fun e' ht ok => op_17 e' ht)
theorem st_18 {C M : St} {k h p : Nat} (e : SX C M k h p 18) : OUT (cst C) (mgo M (pX9_fault M)) :=
  st_ord (l := 1) (t := 1) (X := fun D => pX6_move D 18) (OKR := h < 16) e (by decide) rfl rfl (by decide) (by decide) rfl rfl (by decide) (fun _ => rm_1 (t := 1) e (by decide) rfl rfl) (fun D => (show dsp 18 D = (bn2 (pX6_move D 18) fun r M => some (r, M)) from rfl).trans (bn2_eta _)) (fun e' ht ok => by rw [show BR M (nI 18) = some 0 from (show BR M (nI 18) = pX9_fault_b580 M from rfl).trans (b580_0 e' ok)]; exact op_18 e' ht ok)
theorem st_19 {C M : St} {k h p : Nat} (e : SX C M k h p 19) : OUT (cst C) (mgo M (pX9_fault M)) :=
  st_ord (l := 1) (t := 1) (X := fun D => pX6_move D 19) (OKR := True) e (by decide) rfl rfl (by decide) (by decide) rfl rfl (by decide) (fun c => Or.inl ⟨rm_le (u := 0) (t := 1) e (by decide) c rfl, trivial⟩) (fun D => (show dsp 19 D = (bn2 (pX6_move D 19) fun r M => some (r, M)) from rfl).trans (bn2_eta _)) (fun e' ht ok => op_19 e' ht)
theorem st_20 {C M : St} {k h p : Nat} (e : SX C M k h p 20) : OUT (cst C) (mgo M (pX9_fault M)) :=
  st_ord (l := 1) (t := 2) (X := fun D => pX6_move D 20) (OKR := True) e (by decide) rfl rfl (by decide) (by decide) rfl rfl (by decide) (fun c => Or.inl ⟨rm_le (u := 2) (t := 2) e (by decide) c rfl, trivial⟩) (fun D => (show dsp 20 D = (bn2 (pX6_move D 20) fun r M => some (r, M)) from rfl).trans (bn2_eta _)) (fun e' ht ok => op_20 e' ht)
theorem st_21 {C M : St} {k h p : Nat} (e : SX C M k h p 21) : OUT (cst C) (mgo M (pX9_fault M)) :=
  st_ord (l := 2) (t := 0) (X := fun D => pX6_jump D 21) (OKR := True) e (by decide) rfl rfl (by decide) (by decide) rfl rfl (by decide) (fun c => Or.inl ⟨rm_le (u := 0) (t := 0) e (by decide) c rfl, trivial⟩) (fun D => (show dsp 21 D = (bn2 (pX6_jump D 21) fun r M => some (r, M)) from rfl).trans (bn2_eta _)) (fun e' ht ok => op_21 e')
theorem st_22 {C M : St} {k h p : Nat} (e : SX C M k h p 22) : OUT (cst C) (mgo M (pX9_fault M)) :=
  st_ord (l := 3) (t := 1) (X := fun D => pX6_jump D 22) (OKR := True) e (by decide) rfl rfl (by decide) (by decide) rfl rfl (by decide) (fun c => Or.inl ⟨rm_le (u := 0) (t := 1) e (by decide) c rfl, trivial⟩) (fun D => (show dsp 22 D = (bn2 (pX6_jump D 22) fun r M => some (r, M)) from rfl).trans (bn2_eta _)) (fun e' ht ok => op_22 e' ht)
theorem st_23 {C M : St} {k h p : Nat} (e : SX C M k h p 23) : OUT (cst C) (mgo M (pX9_fault M)) :=
  st_ord (l := 3) (t := 2) (X := fun D => pX6_jump D 23) (OKR := True) e (by decide) rfl rfl (by decide) (by decide) rfl rfl (by decide) (fun c => Or.inl ⟨rm_le (u := 0) (t := 2) e (by decide) c rfl, trivial⟩) (fun D => (show dsp 23 D = (bn2 (pX6_jump D 23) fun r M => some (r, M)) from rfl).trans (bn2_eta _)) (fun e' ht ok => op_23 e' ht)
theorem st_25 {C M : St} {k h p : Nat} (e : SX C M k h p 25) : OUT (cst C) (mgo M (pX9_fault M)) :=
  st_ord (l := 1) (t := 0) (X := fun D => pX6_callOrEnd D 25) (OKR := True) e (by decide) rfl rfl (by decide) (by decide) rfl rfl (by decide) (fun c => Or.inl ⟨rm_le (u := 0) (t := 0) e (by decide) c rfl, trivial⟩) (fun D => (show dsp 25 D = (bn2 (pX6_callOrEnd D 25) fun r M => some (r, M)) from rfl).trans (bn2_eta _)) (fun e' ht ok => op_25 e')
theorem st_26 {C M : St} {k h p : Nat} (e : SX C M k h p 26) : OUT (cst C) (mgo M (pX9_fault M)) :=
  st_ord (l := 1) (t := 1) (X := fun D => pX6_callOrEnd D 26) (OKR := True) e (by decide) rfl rfl (by decide) (by decide) rfl rfl (by decide) (fun c => Or.inl ⟨rm_le (u := 0) (t := 1) e (by decide) c rfl, trivial⟩) (fun D => (show dsp 26 D = (bn2 (pX6_callOrEnd D 26) fun r M => some (r, M)) from rfl).trans (bn2_eta _)) (fun e' ht ok => op_26 e' ht)
theorem st_28 {C M : St} {k h p : Nat} (e : SX C M k h p 28) : OUT (cst C) (mgo M (pX9_fault M)) :=
  st_ord (l := 2) (t := 0) (X := fun D => pX6_useObjects D 28) (OKR := True) e (by decide) rfl rfl (by decide) (by decide) rfl rfl (by decide) (fun _ => Or.inl ⟨rfl, trivial⟩) (fun D => (show dsp 28 D = (bn2 (pX6_useObjects D 28) fun r M => some (r, M)) from rfl).trans (bn2_eta _)) (fun e' ht ok => op_28 e')
theorem st_29 {C M : St} {k h p : Nat} (e : SX C M k h p 29) : OUT (cst C) (mgo M (pX9_fault M)) :=
  st_ord (l := 2) (t := 0) (X := fun D => pX6_useObjects D 29) (OKR := True) e (by decide) rfl rfl (by decide) (by decide) rfl rfl (by decide) (fun _ => Or.inl ⟨rfl, trivial⟩) (fun D => (show dsp 29 D = (bn2 (pX6_useObjects D 29) fun r M => some (r, M)) from rfl).trans (bn2_eta _)) (fun e' ht ok => op_29 e')
theorem st_30 {C M : St} {k h p : Nat} (e : SX C M k h p 30) : OUT (cst C) (mgo M (pX9_fault M)) :=
  st_ord (l := 1) (t := 2) (X := fun D => pX6_useObjects D 30) (OKR := True) e (by decide) rfl rfl (by decide) (by decide) rfl rfl (by decide) (fun c => Or.inl ⟨rm_le (u := 1) (t := 2) e (by decide) c rfl, trivial⟩) (fun D => (show dsp 30 D = (bn2 (pX6_useObjects D 30) fun r M => some (r, M)) from rfl).trans (bn2_eta _)) (fun e' ht ok => op_30 e' ht)
theorem st_31 {C M : St} {k h p : Nat} (e : SX C M k h p 31) : OUT (cst C) (mgo M (pX9_fault M)) :=
  st_ord (l := 1) (t := 3) (X := fun D => pX6_useObjects D 31) (OKR := True) e (by decide) rfl rfl (by decide) (by decide) rfl rfl (by decide) (fun c => Or.inl ⟨rm_le (u := 0) (t := 3) e (by decide) c rfl, trivial⟩) (fun D => (show dsp 31 D = (bn2 (pX6_useObjects D 31) fun r M => some (r, M)) from rfl).trans (bn2_eta _)) (fun e' ht ok => op_31 e' ht)
theorem st_32 {C M : St} {k h p : Nat} (e : SX C M k h p 32) : OUT (cst C) (mgo M (pX9_fault M)) :=
  st_ord (l := 1) (t := 1) (X := fun D => pX6_useObjects D 32) (OKR := True) e (by decide) rfl rfl (by decide) (by decide) rfl rfl (by decide) (fun c => Or.inl ⟨rm_le (u := 1) (t := 1) e (by decide) c rfl, trivial⟩) (fun D => (show dsp 32 D = (bn2 (pX6_useObjects D 32) fun r M => some (r, M)) from rfl).trans (bn2_eta _)) (fun e' ht ok => op_32 e' ht)
theorem st_33 {C M : St} {k h p : Nat} (e : SX C M k h p 33) : OUT (cst C) (mgo M (pX9_fault M)) :=
  st_ord (l := 1) (t := 0) (X := fun D => pX6_useObjects D 33) (OKR := h < 16) e (by decide) rfl rfl (by decide) (by decide) rfl rfl (by decide) (fun _ => rm_1 (t := 0) e (by decide) rfl rfl) (fun D => (show dsp 33 D = (bn2 (pX6_useObjects D 33) fun r M => some (r, M)) from rfl).trans (bn2_eta _)) (fun e' ht ok => by rw [show BR M (nI 33) = some 0 from (show BR M (nI 33) = pX9_fault_b580 M from rfl).trans (b580_0 e' ok)]; exact op_33 e' ok)
theorem st_34 {C M : St} {k h p : Nat} (e : SX C M k h p 34) : OUT (cst C) (mgo M (pX9_fault M)) :=
  st_ord (l := 1) (t := 1) (X := fun D => pX6_useObjects D 34) (OKR := True) e (by decide) rfl rfl (by decide) (by decide) rfl rfl (by decide) (fun c => Or.inl ⟨rm_le (u := 1) (t := 1) e (by decide) c rfl, trivial⟩) (fun D => (show dsp 34 D = (bn2 (pX6_useObjects D 34) fun r M => some (r, M)) from rfl).trans (bn2_eta _)) (fun e' ht ok => op_34 e' ht)
theorem st_35 {C M : St} {k h p : Nat} (e : SX C M k h p 35) : OUT (cst C) (mgo M (pX9_fault M)) :=
  st_ord (l := 1) (t := 5) (X := fun D => pX6_useObjects D 35) (OKR := True) e (by decide) rfl rfl (by decide) (by decide) rfl rfl (by decide) (fun c => Or.inl ⟨rm_le (u := 0) (t := 5) e (by decide) c rfl, trivial⟩) (fun D => (show dsp 35 D = (bn2 (pX6_useObjects D 35) fun r M => some (r, M)) from rfl).trans (bn2_eta _)) (fun e' ht ok => op_35 e' ht)
theorem st_36 {C M : St} {k h p : Nat} (e : SX C M k h p 36) : OUT (cst C) (mgo M (pX9_fault M)) :=
  st_ord (l := 1) (t := 0) (X := fun D => pX6_changeTransaction D 36) (OKR := True) e (by decide) rfl rfl (by decide) (by decide) rfl rfl (by decide) (fun c => Or.inl ⟨rm_le (u := 0) (t := 0) e (by decide) c rfl, trivial⟩) (fun D => (show dsp 36 D = (bn2 (pX6_changeTransaction D 36) fun r M => some (r, M)) from rfl).trans (bn2_eta _)) (fun e' ht ok => op_36 e')
theorem st_37 {C M : St} {k h p : Nat} (e : SX C M k h p 37) : OUT (cst C) (mgo M (pX9_fault M)) :=
  st_ord (l := 1) (t := 0) (X := fun D => pX6_changeTransaction D 37) (OKR := True) e (by decide) rfl rfl (by decide) (by decide) rfl rfl (by decide) (fun c => Or.inl ⟨rm_le (u := 0) (t := 0) e (by decide) c rfl, trivial⟩) (fun D => (show dsp 37 D = (bn2 (pX6_changeTransaction D 37) fun r M => some (r, M)) from rfl).trans (bn2_eta _)) (fun e' ht ok => op_37 e')
theorem st_38 {C M : St} {k h p : Nat} (e : SX C M k h p 38) : OUT (cst C) (mgo M (pX9_fault M)) :=
  st_ord (l := 1) (t := 0) (X := fun D => pX6_changeTransaction D 38) (OKR := True) e (by decide) rfl rfl (by decide) (by decide) rfl rfl (by decide) (fun c => Or.inl ⟨rm_le (u := 0) (t := 0) e (by decide) c rfl, trivial⟩) (fun D => (show dsp 38 D = (bn2 (pX6_changeTransaction D 38) fun r M => some (r, M)) from rfl).trans (bn2_eta _)) (fun e' ht ok => op_38 e')
theorem st_39 {C M : St} {k h p : Nat} (e : SX C M k h p 39) : OUT (cst C) (mgo M (pX9_fault M)) :=
  st_ord (l := 1) (t := 0) (X := fun D => pX6_changeTransaction D 39) (OKR := h < 16) e (by decide) rfl rfl (by decide) (by decide) rfl rfl (by decide) (fun _ => rm_1 (t := 0) e (by decide) rfl rfl) (fun D => (show dsp 39 D = (bn2 (pX6_changeTransaction D 39) fun r M => some (r, M)) from rfl).trans (bn2_eta _)) (fun e' ht ok => by rw [show BR M (nI 39) = some 0 from (show BR M (nI 39) = pX9_fault_b580 M from rfl).trans (b580_0 e' ok)]; exact op_39 e' ok)
theorem st_40 {C M : St} {k h p : Nat} (e : SX C M k h p 40) : OUT (cst C) (mgo M (pX9_fault M)) :=
  st_ord (l := 1) (t := 1) (X := fun D => pX6_talk D 40) (OKR := True) e (by decide) rfl rfl (by decide) (by decide) rfl rfl (by decide) (fun c => Or.inl ⟨rm_le (u := 1) (t := 1) e (by decide) c rfl, trivial⟩) (fun D => (show dsp 40 D = (bn2 (pX6_talk D 40) fun r M => some (r, M)) from rfl).trans (bn2_eta _)) (fun e' ht ok => op_40 e' ht)
theorem st_41 {C M : St} {k h p : Nat} (e : SX C M k h p 41) : OUT (cst C) (mgo M (pX9_fault M)) :=
  st_ord (l := 1) (t := 0) (X := fun D => pX6_talk D 41) (OKR := h < 16) e (by decide) rfl rfl (by decide) (by decide) rfl rfl (by decide) (fun _ => rm_1 (t := 0) e (by decide) rfl rfl) (fun D => (show dsp 41 D = (bn2 (pX6_talk D 41) fun r M => some (r, M)) from rfl).trans (bn2_eta _)) (fun e' ht ok => by rw [show BR M (nI 41) = some 0 from (show BR M (nI 41) = pX9_fault_b580 M from rfl).trans (b580_0 e' ok)]; exact op_41 e' ok)
theorem st_42 {C M : St} {k h p : Nat} (e : SX C M k h p 42) : OUT (cst C) (mgo M (pX9_fault M)) :=
  st_ord (l := 1) (t := 1) (X := fun D => pX6_talk D 42) (OKR := True) e (by decide) rfl rfl (by decide) (by decide) rfl rfl (by decide) (fun c => Or.inl ⟨rm_le (u := 0) (t := 1) e (by decide) c rfl, trivial⟩) (fun D => (show dsp 42 D = (bn2 (pX6_talk D 42) fun r M => some (r, M)) from rfl).trans (bn2_eta _)) (fun e' ht ok => op_42 e' ht)
theorem st_43 {C M : St} {k h p : Nat} (e : SX C M k h p 43) : OUT (cst C) (mgo M (pX9_fault M)) :=
  st_ord (l := 1) (t := 1) (X := fun D => pX6_throwOrHandle D 43) (OKR := True) e (by decide) rfl rfl (by decide) (by decide) rfl rfl (by decide) (fun c => Or.inl ⟨rm_le (u := 0) (t := 1) e (by decide) c rfl, trivial⟩) (fun D => (show dsp 43 D = (bn2 (pX6_throwOrHandle D 43) fun r M => some (r, M)) from rfl).trans (bn2_eta _)) (fun e' ht ok => op_43 e' ht)
theorem st_44 {C M : St} {k h p : Nat} (e : SX C M k h p 44) : OUT (cst C) (mgo M (pX9_fault M)) :=
  st_ord (l := 2) (t := 0) (X := fun D => pX6_throwOrHandle D 44) (OKR := True) e (by decide) rfl rfl (by decide) (by decide) rfl rfl (by decide) (fun c => Or.inl ⟨rm_le (u := 0) (t := 0) e (by decide) c rfl, trivial⟩) (fun D => (show dsp 44 D = (bn2 (pX6_throwOrHandle D 44) fun r M => some (r, M)) from rfl).trans (bn2_eta _)) (fun e' ht ok => op_44 e')
theorem st_45 {C M : St} {k h p : Nat} (e : SX C M k h p 45) : OUT (cst C) (mgo M (pX9_fault M)) :=
  st_ord (l := 1) (t := 0) (X := fun D => pX6_throwOrHandle D 45) (OKR := True) e (by decide) rfl rfl (by decide) (by decide) rfl rfl (by decide) (fun c => Or.inl ⟨rm_le (u := 0) (t := 0) e (by decide) c rfl, trivial⟩) (fun D => (show dsp 45 D = (bn2 (pX6_throwOrHandle D 45) fun r M => some (r, M)) from rfl).trans (bn2_eta _)) (fun e' ht ok => op_45 e')
theorem st_all {C M : St} {k h p j : Nat} (e : SX C M k h p j) (hj : j < 46) : OUT (cst C) (mgo M (pX9_fault M)) := by
  match j, hj, e with
  | 0, _, e => exact st_0 e
  | 1, _, e => exact st_1 e
  | 2, _, e => exact st_2 e
  | 3, _, e => exact st_3 e
  | 4, _, e => exact st_4 e
  | 5, _, e => exact st_5 e
  | 6, _, e => exact st_6 e
  | 7, _, e => exact st_7 e
  | 8, _, e => exact st_8 e
  | 9, _, e => exact st_9 e
  | 10, _, e => exact st_10 e
  | 11, _, e => exact st_11 e
  | 12, _, e => exact st_12 e
  | 13, _, e => exact st_13 e
  | 14, _, e => exact st_14 e
  | 15, _, e => exact st_15 e
  | 16, _, e => exact st_16 e
  | 17, _, e => exact st_17 e
  | 18, _, e => exact st_18 e
  | 19, _, e => exact st_19 e
  | 20, _, e => exact st_20 e
  | 21, _, e => exact st_21 e
  | 22, _, e => exact st_22 e
  | 23, _, e => exact st_23 e
  | 24, _, e => exact st_call e (by decide)
  | 25, _, e => exact st_25 e
  | 26, _, e => exact st_26 e
  | 27, _, e => exact st_call e (by decide)
  | 28, _, e => exact st_28 e
  | 29, _, e => exact st_29 e
  | 30, _, e => exact st_30 e
  | 31, _, e => exact st_31 e
  | 32, _, e => exact st_32 e
  | 33, _, e => exact st_33 e
  | 34, _, e => exact st_34 e
  | 35, _, e => exact st_35 e
  | 36, _, e => exact st_36 e
  | 37, _, e => exact st_37 e
  | 38, _, e => exact st_38 e
  | 39, _, e => exact st_39 e
  | 40, _, e => exact st_40 e
  | 41, _, e => exact st_41 e
  | 42, _, e => exact st_42 e
  | 43, _, e => exact st_43 e
  | 44, _, e => exact st_44 e
  | 45, _, e => exact st_45 e
  | n + 46, h, _ => exact absurd h (by omega)
theorem step_ok {C M : St} {k h : Nat} (r : R3 C M k h) (hu : ¬ M 0 32 = M 0 31) : OUT (pX6_step C) (pX9_step M) := by
  have hk := r.1.1.k
  have c7 : C 1 7 = M 0 32 := r.1.1.1.s (by decide +kernel)
  have r1 := r.1.used (M 0 32 + 1)
  have pl : (up2 C 1 7 (M 0 32 + 1)) (27 + k) 4 = M 15 k := by rw [up2_cell _ _ _ _ _ _ (Or.inl (by omega))]; exact r.2
  have r2 := r1.ca (M 15 k)
  rw [cst_eq, c7, lt_s', ic_of _ r1.1.f hk (by decide), lt_s', pl, show pX9_step M = (if M 0 32 = M 0 31 then lt (up2 M 0 35 10) fun M4 => some M4 else lt (up2 M 0 32 ((M 0 32) + 1)) fun M1 => mgo M1 (pX9_fault M1)) from rfl, if_neg hu, lt_s']
  have mp : (up2 M 0 32 (M 0 32 + 1)) 15 k = M 15 k := rfl
  have ca : (up2 (up2 C 1 7 (M 0 32 + 1)) 1 11 (M 15 k)) 1 11 = M 15 k := up2_at _ _ _ _
  generalize up2 (up2 C 1 7 (M 0 32 + 1)) 1 11 (M 15 k) = D at r2 ca ⊢
  generalize up2 M 0 32 (M 0 32 + 1) = N at r2 mp ⊢
  generalize M 15 k = P at mp ca
  have f7 : pX6_fetchFault D = some 7 → pX9_fault N = some 7 → OUT (cst D) (mgo N (pX9_fault N)) := fun a b => by
    rw [SX.cstf a (by decide), b]
    exact OUT.thr (S16_nI (n := 7) (by decide)) rfl (mgo_f N (by decide)) r2.1
  by_cases p0 : P < 0
  · refine f7 ?_ ?_
    · unfold pX6_fetchFault
      rw [ca, if_pos p0]
    · unfold pX9_fault
      rw [mhere r2.1.m hk, bn_s, mp, if_pos p0]
  obtain ⟨p, hp, rfl⟩ := nI_of p0
  by_cases p5 : 512 ≤ p
  · have p5' : (512 : Int32) ≤ nI p := nI_le (a := 512) p5 hp
    refine f7 ?_ ?_
    · unfold pX6_fetchFault
      rw [ca, if_neg p0, if_pos p5']
    · unfold pX9_fault
      rw [mhere r2.1.m hk, bn_s, mp, if_neg p0, bn_s, if_pos p5']
  obtain ⟨b, hb, eb⟩ := r2.1.2.1.1 p
  by_cases b46 : b < 46
  · exact st_all ⟨r2, ca, mp, eb, by omega⟩ b46
  · have p5' : ¬ (512 : Int32) ≤ nI p := nI_ge (b := 512) (by omega) (by decide)
    have cd : D 4 = N 1 := r2.1.1.r (by decide +kernel)
    refine f7 ?_ ?_
    · unfold pX6_fetchFault
      rw [ca, if_neg p0, if_neg p5', gd_t (inb_nI (by omega) (by decide)), ix_nI (by omega), cd, eb, if_neg (show ¬ nI b < (46 : Int32) from nI_nlt (b := 46) (by omega) (by omega))]
    · unfold pX9_fault
      rw [mhere r2.1.m hk, bn_s, mp, if_neg p0, bn_s, if_neg p5', mbyte (x := 0) (j := 0) r2.1.m hk mp rfl (by omega), bn_s, Nat.add_zero, eb, if_pos (show (45 : Int32) < nI b from nI_lt (a := 45) (by omega) (by omega))]
