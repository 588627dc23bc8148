theorem ofT {x : Int32} (h : 0 ≤ x.toInt) : x = nI x.toInt.toNat := by
  apply Int32.toInt_inj.mp
  have := x.toInt_lt
  rw [nI_toInt (by omega)]
  omega
theorem lt_of_rok {f : Nat → Int32} {w m : Int32} (h : rokF f w m) : 0 ≤ (f 3).toInt ∧ (f 3).toInt ≤ m.toInt := ⟨Int32.le_iff_toInt_le.mp h.2.2.1, Int32.le_iff_toInt_le.mp h.2.2.2⟩
/-- a table's place, by numbers -/
theorem rat_nI {I : hI_} {a b k j w m : Nat} (h : rok I a (nI w) (nI m)) (hk : (k : Int) < (I a 3).toInt) (hj : j < w) (hm : m * w < 1000) (hw : w < 1000) (hm2 : m < 1000) : rat I a b (nI k) (nI j) = I b (k * w + j) := by
  obtain ⟨h1, h2, h3, h4⟩ := h
  have h4 := Int32.le_iff_toInt_le.mp h4
  rw [nI_toInt (by omega)] at h4
  have hkm : k * w + j < m * w := by
    have : (k + 1) * w ≤ m * w := Nat.mul_le_mul_right w (by omega)
    rw [Nat.add_mul] at this
    omega
  unfold rat
  rw [h1, pk_mul, nI_add, nI_clamp (by omega), if_pos]
  refine ⟨⟨nI_pos' (by omega), ?_⟩, nI_pos' (by omega), nI_lt hj (by omega)⟩
  rw [Int32.lt_iff_toInt_lt, nI_toInt (by omega)]
  exact hk
theorem rput_nI {I : hI_} {a b k j w m : Nat} {v : Int32} (h : rok I a (nI w) (nI m)) (hk : (k : Int) < (I a 3).toInt) (hj : j < w) (hm : m * w < 1000) (hw : w < 1000) (hm2 : m < 1000) : rput I a b (nI k) (nI j) v = upI I b (k * w + j) v := by
  obtain ⟨h1, h2, h3, h4⟩ := h
  have h4 := Int32.le_iff_toInt_le.mp h4
  rw [nI_toInt (by omega)] at h4
  have hkm : k * w + j < m * w := by
    have : (k + 1) * w ≤ m * w := Nat.mul_le_mul_right w (by omega)
    rw [Nat.add_mul] at this
    omega
  unfold rput
  rw [h1, pk_mul, nI_add, nI_clamp (by omega), if_pos]
  refine ⟨⟨nI_pos' (by omega), ?_⟩, nI_pos' (by omega), nI_lt hj (by omega)⟩
  rw [Int32.lt_iff_toInt_lt, nI_toInt (by omega)]
  exact hk
theorem its_nI (I : hI_) {c j : Nat} (hc : c < 12) (hj : j < 8) : its I (nI c) (nI j) = I 82 (72 + 8 * c + j) := by
  unfold its
  rw [show (72 : Int32) + 8 * nI c + nI j = nI (72 + 8 * c + j) from by
    rw [show (8 : Int32) = nI 8 from rfl, show (72 : Int32) = nI 72 from rfl, pk_mul, nI_add, nI_add], nI_clamp (by omega)]
theorem snt_nI (I : hI_) {d j : Nat} (hd : d < 24) (hj : j < 4) : snt I (nI d) (nI j) = I 82 (170 + 4 * d + j) := by
  unfold snt
  rw [show (170 : Int32) + 4 * nI d + nI j = nI (170 + 4 * d + j) from by
    rw [show (4 : Int32) = nI 4 from rfl, show (170 : Int32) = nI 170 from rfl, pk_mul, nI_add, nI_add], nI_clamp (by omega)]
theorem inC_nI {c j : Nat} (hc : c < 12) (hj : j < 8) : inC (nI c) (nI j) := ⟨⟨nI_pos' (by omega), nI_lt (b := 12) hc (by omega)⟩, nI_pos' (by omega), nI_lt (b := 8) hj (by omega)⟩
theorem inD_nI {c j : Nat} (hc : c < 24) (hj : j < 4) : inD (nI c) (nI j) := ⟨⟨nI_pos' (by omega), nI_lt (b := 24) hc (by omega)⟩, nI_pos' (by omega), nI_lt (b := 4) hj (by omega)⟩
/-- how many: places, steps, calls, deals -/
def nP (I : hI_) : Nat := (I 73 0).toInt.toNat
def nS (I : hI_) : Nat := (I 82 280).toInt.toNat
def nC (I : hI_) : Nat := (I 82 281).toInt.toNat
def nD (I : hI_) : Nat := (I 82 282).toInt.toNat
theorem Rel_rows {I : hI_} (h : Rel I) : rok I 22 3 24 ∧ rok I 24 8 12 ∧ rok I 26 5 24 := ⟨h.2.2.1.1, h.2.2.1.2.1, h.2.2.1.2.2.1⟩
theorem Rel_P {I : hI_} (h : Rel I) : I 3 6 = nI (nP I) ∧ I 73 0 = nI (nP I) ∧ nP I ≤ 5 := by
  obtain ⟨-, ⟨⟨h1, h2, h3⟩, -⟩, -⟩ := h
  have e := ofT h2
  exact ⟨h1.trans e, e, by unfold nP; omega⟩
theorem Rel_S {I : hI_} (h : Rel I) : I 22 3 = nI (nS I) ∧ I 82 280 = nI (nS I) ∧ nS I ≤ 24 := by
  have hr := lt_of_rok h.2.2.1.1
  have e0 : I 22 3 = I 82 280 := h.2.2.2.1.1.1
  rw [e0] at hr
  have e := ofT hr.1
  have z : (24 : Int32).toInt = 24 := rfl
  exact ⟨e0.trans e, e, by unfold nS; omega⟩
theorem Rel_C {I : hI_} (h : Rel I) : I 24 3 = nI (nC I) ∧ I 82 281 = nI (nC I) ∧ nC I ≤ 12 := by
  have hr := lt_of_rok h.2.2.1.2.1
  have e0 : I 24 3 = I 82 281 := h.2.2.2.1.2.1.1
  rw [e0] at hr
  have e := ofT hr.1
  have z : (12 : Int32).toInt = 12 := rfl
  exact ⟨e0.trans e, e, by unfold nC; omega⟩
theorem Rel_D {I : hI_} (h : Rel I) : I 26 3 = nI (nD I) ∧ I 82 282 = nI (nD I) ∧ nD I ≤ 24 := by
  have hr := lt_of_rok h.2.2.1.2.2.1
  have e0 : I 26 3 = I 82 282 := h.2.2.2.1.2.2.1
  rw [e0] at hr
  have e := ofT hr.1
  have z : (24 : Int32).toInt = 24 := rfl
  exact ⟨e0.trans e, e, by unfold nD; omega⟩
/-- a step: its three numbers, the same in both, within bounds -/
theorem Rel_step {I : hI_} (h : Rel I) {k : Nat} (hk : k < nS I) : (rat I 22 23 (nI k) 0 = I 82 (3 * k) ∧ rat I 22 23 (nI k) 1 = I 82 (3 * k + 1) ∧ rat I 22 23 (nI k) 2 = I 82 (3 * k + 2)) ∧ bet 0 (I 82 (3 * k)) (nP I - 1) ∧ bet 0 (I 82 (3 * k + 1)) 999 ∧ bet 1 (I 82 (3 * k + 2)) 999 := by
  have hS := Rel_S h
  have hP := Rel_P h
  have hr := (Rel_rows h).1
  have hk1 : (k : Int) < (I 22 3).toInt := by rw [hS.1, nI_toInt (by omega)]; omega
  obtain ⟨⟨e0, e1, e2⟩, b0, b1, b2⟩ := h.2.2.2.1.1.2 k hk1
  simp only [Nat.zero_add] at e0 e1 e2
  have q0 : rat I 22 23 (nI k) 0 = I 23 (k * 3 + 0) := rat_nI (j := 0) (w := 3) (m := 24) hr hk1 (by omega) (by omega) (by omega) (by omega)
  have q1 : rat I 22 23 (nI k) 1 = I 23 (k * 3 + 1) := rat_nI (j := 1) (w := 3) (m := 24) hr hk1 (by omega) (by omega) (by omega) (by omega)
  have q2 : rat I 22 23 (nI k) 2 = I 23 (k * 3 + 2) := rat_nI (j := 2) (w := 3) (m := 24) hr hk1 (by omega) (by omega) (by omega) (by omega)
  rw [hP.2.1, nI_toInt (by omega)] at b0
  rw [Nat.mul_comm k 3] at q0 q1 q2
  rw [e0] at b0; rw [e1] at b1; rw [e2] at b2
  exact ⟨⟨q0.trans e0, q1.trans e1, q2.trans e2⟩, b0, b1, b2⟩
/-- a call's numbers, the same in both -/
theorem Rel_call {I : hI_} (h : Rel I) {c : Nat} (hc : c < nC I) : (∀ j, j < 7 → rat I 24 25 (nI c) (nI j) = I 82 (72 + 8 * c + j) ∧ I 25 (8 * c + j) = I 82 (72 + 8 * c + j)) ∧ callB (I 25) c (nP I) ∧ rat I 24 25 (nI c) 7 = I 25 (8 * c + 7) ∧ ((I 25 (8 * c + 7) = -4 ∧ I 82 (72 + 8 * c + 7) = 0) ∨ (bet (I 82 (72 + 8 * c + 1)).toInt (I 25 (8 * c + 7)) 999 ∧ I 82 (72 + 8 * c + 7) = I 25 (8 * c + 7) + 1)) := by
  have hS := Rel_C h
  have hP := Rel_P h
  have hr := (Rel_rows h).2.1
  have hk1 : (c : Int) < (I 24 3).toInt := by rw [hS.1, nI_toInt (by omega)]; omega
  obtain ⟨e0, b0, b1⟩ := h.2.2.2.1.2.1.2 c hk1
  simp only [Nat.zero_add] at e0 b1
  rw [hP.2.1, nI_toInt (by omega)] at b0
  rw [e0 1 (by omega)] at b1
  refine ⟨fun j hj => ⟨?_, e0 j hj⟩, b0, ?_, b1⟩
  · rw [rat_nI (w := 8) (m := 12) hr hk1 (by omega) (by omega) (by omega) (by omega), Nat.mul_comm c 8]
    exact e0 j hj
  · have := rat_nI (I := I) (a := 24) (b := 25) (j := 7) (w := 8) (m := 12) hr hk1 (by omega) (by omega) (by omega) (by omega)
    rw [Nat.mul_comm c 8] at this
    exact this
/-- a deal's numbers, the same in both; the minute at which it comes -/
theorem Rel_deal {I : hI_} (h : Rel I) {d : Nat} (hd : d < nD I) : (∀ j, j < 4 → rat I 26 27 (nI d) (nI j) = I 82 (170 + 4 * d + j)) ∧ ∃ p c m q t : Nat, I 82 (170 + 4 * d) = nI p ∧ I 82 (170 + 4 * d + 1) = nI c ∧ I 82 (170 + 4 * d + 2) = nI m ∧ p < nP I ∧ c < nC I ∧ m ≤ 999 ∧ bet 1 (I 82 (170 + 4 * d + 3)) 99 ∧ I 82 (72 + 8 * c) = nI q ∧ q ≠ p ∧ q < nP I ∧ I 82 (72 + 8 * c + 1) = nI t ∧ t ≤ 999 ∧ rat I 26 27 (nI d) 4 = nI (arr (wI I) p m q) ∧ arr (wI I) q t p ≤ m := by
  have hS := Rel_D h
  have hC := Rel_C h
  have hP := Rel_P h
  have hr := (Rel_rows h).2.2
  have hk1 : (d : Int) < (I 26 3).toInt := by rw [hS.1, nI_toInt (by omega)]; omega
  obtain ⟨e0, p, c, m, q, t, b0, b1, b2, b3, b4, b5, b6, b7, b8, b9, b10, b11, b12, b13⟩ := h.2.2.2.1.2.2.2 d hk1
  simp only [Nat.zero_add] at e0
  rw [hP.2.1, nI_toInt (by omega)] at b3 b9
  rw [hC.1, nI_toInt (by omega)] at b4
  have hc := Rel_call h (c := c) (by omega)
  have c0 := (hc.1 0 (by omega)).2
  have c1 := (hc.1 1 (by omega)).2
  have d0 := e0 0 (by omega)
  have d1 := e0 1 (by omega)
  have d2 := e0 2 (by omega)
  have d3 := e0 3 (by omega)
  simp only [Nat.add_zero] at c0 d0
  refine ⟨fun j hj => ?_, p, c, m, q, t, d0.symm.trans b0, d1.symm.trans b1, d2.symm.trans b2, by omega, by omega, b5, by rw [← d3]; exact b6, c0.symm.trans b7, b8, by omega, c1.symm.trans b10, b11, ?_, b13⟩
  · rw [rat_nI (w := 5) (m := 24) hr hk1 (by omega) (by omega) (by omega) (by omega), Nat.mul_comm d 5]
    exact e0 j hj
  · have := rat_nI (I := I) (a := 26) (b := 27) (j := 4) (w := 5) (m := 24) hr hk1 (by omega) (by omega) (by omega) (by omega)
    rw [Nat.mul_comm d 5] at this
    exact this.trans b12
/-- two answers, one after the other -/
def Op2 (E : aE) (mx mm : aM) (ax : List Value) (I : hI_) (J : hJ_) (P : hI_ → hJ_ → Prop) : Prop := CallI E mx (.ref 0 :: ax) SH I J (fun r I1 J1 => CallI E mm (.ref 68 :: ax) SH I1 J1 (fun r2 I2 J2 => r = r2 ∧ P I2 J2))
def Op2J (E : aE) (mx mm : aM) (ax : List Value) (I : hI_) (J : hJ_) (P : hI_ → hJ_ → Prop) : Prop := CallJ E mx (.ref 0 :: ax) SH I J (fun r I1 J1 => CallJ E mm (.ref 68 :: ax) SH I1 J1 (fun r2 I2 J2 => r = r2 ∧ P I2 J2))
/-- a question: both answer val, and write nothing that lasts -/
theorem op_ask {E : aE} {mx mm : aM} {ax : List Value} {I : hI_} {J : hJ_} {P : hI_ → hJ_ → Prop} (hr : Rel I) (hP : ∀ I2 J2, Rel I2 → P I2 J2) (val : Int32) (hx : ∀ Q, (∀ I1 J1, agX I I1 → Q val I1 J1) → CallI E mx (.ref 0 :: ax) SH I J Q) (hm : ∀ I1 J1, agX I I1 → Rel I1 → ∀ Q, (∀ I2 J2, agM I1 I2 → Q val I2 J2) → CallI E mm (.ref 68 :: ax) SH I1 J1 Q) : Op2 E mx mm ax I J P := by
  refine hx _ (fun I1 J1 h1 => ?_)
  have hr1 := Rel_agX h1 hr
  exact hm I1 J1 h1 hr1 _ (fun I2 J2 h2 => ⟨rfl, hP I2 J2 (Rel_agM h2 hr1)⟩)
/-- a place, minute .. is one or isn't -/
theorem in_lt {x : Int32} {n : Nat} (hn : n < 1000000) (h : 0 ≤ x ∧ x ≤ nI n - 1) : ∃ k : Nat, k < n ∧ x = nI k := by
  have h1 := Int32.le_iff_toInt_le.mp h.1
  have h2 := Int32.le_iff_toInt_le.mp h.2
  have z : (0 : Int32).toInt = 0 := rfl
  have o : (1 : Int32).toInt = 1 := rfl
  rw [ti_sub (by rw [nI_toInt (by omega), o]; omega) (by rw [nI_toInt (by omega), o]; omega), nI_toInt (by omega), o] at h2
  exact ⟨x.toInt.toNat, by omega, ofT (by omega)⟩
theorem in_le {x : Int32} {m : Int32} {n : Nat} (hm : m.toInt = n) (h : 0 ≤ x ∧ x ≤ m) : ∃ k : Nat, k ≤ n ∧ x = nI k := by
  have h1 := Int32.le_iff_toInt_le.mp h.1
  have h2 := Int32.le_iff_toInt_le.mp h.2
  have z : (0 : Int32).toInt = 0 := rfl
  exact ⟨x.toInt.toNat, by omega, ofT (by omega)⟩
