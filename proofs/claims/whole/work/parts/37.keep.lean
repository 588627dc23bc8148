set_option maxHeartbeats 4000000 in
set_option maxRecDepth 20000 in
theorem wX5_become {E : aE} {P : hI_ → hJ_ → Prop} {I : hI_} {J : hJ_} {a b n a2 b2 n2 : Nat}  (ha : SH[a]? = some (.inr (5, [0, 0, b + 3, 0]))) (hb : SH[b]? = some (.inl (0, n, []))) (haa : SH[a2]? = some (.inr (5, [0, 0, b2 + 3, 0]))) (hbb : SH[b2]? = some (.inl (0, n2, []))) (k : (¬ (jmin (Int32.ofNat n) (Int32.ofNat n2)) < 0) ∧ (0 + (jmin (Int32.ofNat n) (Int32.ofNat n2)).toNatClampNeg ≤ n2) ∧ (0 + (jmin (Int32.ofNat n) (Int32.ofNat n2)).toNatClampNeg ≤ n) ∧ P (upI (cpI I b2 b 0 0 ((jmin (Int32.ofNat n) (Int32.ofNat n2)).toNatClampNeg)) a 3 (jmin ((cpI I b2 b 0 0 ((jmin (Int32.ofNat n) (Int32.ofNat n2)).toNatClampNeg)) a 0) ((cpI I b2 b 0 0 ((jmin (Int32.ofNat n) (Int32.ofNat n2)).toNatClampNeg)) a2 3))) J) : CallV E mX5_become [.ref a, .ref a2] SH I J P := by
  refine Call_of (L := [.ref a, .ref a2]) ok_X5_become.1 rfl rfl ?_
  refine V_aload_n dX5_become_0 rfl ?_
  refine U_getR dX5_become_1 fl_X5_22 haa rfl ?_
  refine V_iconst (v := (0 : Int32)) dX5_become_4 rfl ?_
  refine V_aload_n dX5_become_5 rfl ?_
  refine U_getR dX5_become_6 fl_X5_22 ha rfl ?_
  refine V_iconst (v := (0 : Int32)) dX5_become_9 rfl ?_
  refine V_aload_n dX5_become_10 rfl ?_
  refine U_getR dX5_become_11 fl_X5_22 ha rfl ?_
  refine U_alen (v := Int32.ofNat n) dX5_become_14 hb (by decide) rfl ?_
  refine V_aload_n dX5_become_15 rfl ?_
  refine U_getR dX5_become_16 fl_X5_22 haa rfl ?_
  refine U_alen (v := Int32.ofNat n2) dX5_become_19 hbb (by decide) rfl ?_
  refine V_mmin dX5_become_20 om_X5_29 rfl ?_
  obtain ⟨hb1, k⟩ := k
  obtain ⟨hb2, k⟩ := k
  obtain ⟨hb3, k⟩ := k
  refine U_copyI dX5_become_23 oa_X5_32 hbb hb (by decide) (by decide) hb1 hb2 hb3 rfl ?_
  refine V_aload_n dX5_become_26 rfl ?_
  refine V_aload_n dX5_become_27 rfl ?_
  refine U_getI dX5_become_28 fl_X5_13 ha rfl ?_
  refine V_aload_n dX5_become_31 rfl ?_
  refine U_getI dX5_become_32 fl_X5_26 haa rfl ?_
  refine V_mmin dX5_become_35 om_X5_29 rfl ?_
  refine U_putI dX5_become_38 fp_X5_26 ha rfl ?_
  exact V_vret dX5_become_41 rfl rfl rfl ⟨_, _, rfl, k⟩
set_option maxHeartbeats 4000000 in
set_option maxRecDepth 20000 in
theorem wX1_become {E : aE} {P : hI_ → hJ_ → Prop} {I : hI_} {J : hJ_} {a o a1 a2 a3 o1 o2 o3 a1b a2b a3b o1b o2b o3b : Nat}  (ha : SH[a]? = some (.inr (1, [6, a1 + 3, a2 + 3, a3 + 3, 0]))) (ho : SH[o]? = some (.inr (1, [6, o1 + 3, o2 + 3, o3 + 3, 0]))) (ha1 : SH[a1]? = some (.inr (5, [0, 0, a1b + 3, 0]))) (ha2 : SH[a2]? = some (.inr (5, [0, 0, a2b + 3, 0]))) (ha3 : SH[a3]? = some (.inr (5, [0, 0, a3b + 3, 0]))) (ho1 : SH[o1]? = some (.inr (5, [0, 0, o1b + 3, 0]))) (ho2 : SH[o2]? = some (.inr (5, [0, 0, o2b + 3, 0]))) (ho3 : SH[o3]? = some (.inr (5, [0, 0, o3b + 3, 0]))) (k : CallV E mX5_become [.ref a1, .ref o1] SH I J (fun I2 J3 => CallV E mX5_become [.ref a2, .ref o2] SH I2 J3 (fun I5 J6 => CallV E mX5_become [.ref a3, .ref o3] SH I5 J6 (fun I8 J9 => P I8 J9)))) : CallV E mX1_become [.ref a, .ref o] SH I J P := by
  refine Call_of (L := [.ref a, .ref o]) ok_X1_become.1 rfl rfl ?_
  refine V_aload_n dX1_become_0 rfl ?_
  refine U_getR dX1_become_1 fl_X1_14 ha rfl ?_
  refine V_aload_n dX1_become_4 rfl ?_
  refine U_getR dX1_become_5 fl_X1_14 ho rfl ?_
  refine U_callV0 [.ref o1] dX1_become_8 ov_X1_34 ha1 rfl ⟨rfl, rfl, rfl⟩ rfl rfl rfl (CallV_mono k (fun I2 J3 k => ?_))
  refine V_aload_n dX1_become_11 rfl ?_
  refine U_getR dX1_become_12 fl_X1_20 ha rfl ?_
  refine V_aload_n dX1_become_15 rfl ?_
  refine U_getR dX1_become_16 fl_X1_20 ho rfl ?_
  refine U_callV0 [.ref o2] dX1_become_19 ov_X1_34 ha2 rfl ⟨rfl, rfl, rfl⟩ rfl rfl rfl (CallV_mono k (fun I5 J6 k => ?_))
  refine V_aload_n dX1_become_22 rfl ?_
  refine U_getR dX1_become_23 fl_X1_23 ha rfl ?_
  refine V_aload_n dX1_become_26 rfl ?_
  refine U_getR dX1_become_27 fl_X1_23 ho rfl ?_
  refine U_callV0 [.ref o3] dX1_become_30 ov_X1_34 ha3 rfl ⟨rfl, rfl, rfl⟩ rfl rfl rfl (CallV_mono k (fun I8 J9 k => ?_))
  exact V_vret dX1_become_33 rfl rfl rfl ⟨_, _, rfl, k⟩
theorem tX5_become {E : aE} {P : hI_ → hJ_ → Prop} {I : hI_} {J : hJ_} {a b a2 b2 n w m : Nat} (ha : SH[a]? = some (.inr (5, [0, 0, b + 3, 0]))) (hb : SH[b]? = some (.inl (0, n, []))) (ha2 : SH[a2]? = some (.inr (5, [0, 0, b2 + 3, 0]))) (hb2 : SH[b2]? = some (.inl (0, n, []))) (hn : n < 1000) (h1 : rokF (I a) (nI w) (nI m)) (h2 : rokF (I a2) (nI w) (nI m)) (d1 : a ≠ b) (d2 : a2 ≠ b) (k : ∀ I2, (∀ c, c ≠ a → c ≠ b → I2 c = I c) → I2 a 3 = I a2 3 → (∀ j, j ≠ 3 → I2 a j = I a j) → (∀ j, j < n → I2 b j = I b2 j) → P I2 J) : CallV E mX5_become [.ref a, .ref a2] SH I J P := by
  have e : jmin (Int32.ofNat n) (Int32.ofNat n) = nI n := by
    unfold jmin
    rw [if_neg (fun z => by have := Int32.lt_iff_toInt_lt.mp z; omega)]
    rfl
  refine wX5_become ha hb ha2 hb2 ?_
  rw [e, nI_clamp (by omega)]
  have c1 : cpI I b2 b 0 0 n a = I a := if_neg d1
  have c2 : cpI I b2 b 0 0 n a2 = I a2 := if_neg d2
  have ej : jmin (I a 0) (I a2 3) = I a2 3 := by
    unfold jmin
    by_cases z : I a2 3 < I a 0
    · rw [if_pos z]
    · rw [if_neg z]
      have h3 := h2.2.2.2
      rw [← h1.2.1] at h3
      exact Int32.le_antisymm (Int32.not_lt.mp z) h3
  rw [c1, c2, ej]
  refine ⟨nI_pos (by omega), by omega, by omega, k _ (fun c e1 e2 => ?_) upI_same (fun j hj => ?_) (fun j hj => ?_)⟩
  · have c3 : cpI I b2 b 0 0 n c = I c := if_neg e2
    rw [← c3]; funext j; rw [upI_at, if_neg (fun z => e1 z.1)]
  · rw [upI_at, if_neg (fun z => hj z.2), c1]
  · rw [upI_at, if_neg (fun z => d1 z.1.symm)]
    have c3 : cpI I b2 b 0 0 n b = va_cpy (I b2) (I b) 0 0 n := if_pos rfl
    rw [c3, pk_cpy_in (by omega) (by omega), Nat.zero_add, Nat.sub_zero]
def ledOK (A : Nat) : Prop := SH[A]? = some (.inr (1, [6, (A + 1) + 3, (A + 3) + 3, (A + 5) + 3, 0])) ∧ SH[A + 1]? = some (.inr (5, [0, 0, (A + 2) + 3, 0])) ∧ SH[A + 2]? = some (.inl (0, 72, [])) ∧ SH[A + 3]? = some (.inr (5, [0, 0, (A + 4) + 3, 0])) ∧ SH[A + 4]? = some (.inl (0, 96, [])) ∧ SH[A + 5]? = some (.inr (5, [0, 0, (A + 6) + 3, 0])) ∧ SH[A + 6]? = some (.inl (0, 120, []))
theorem led21 : ledOK 21 := ⟨s_21, s_22, s_23, s_24, s_25, s_26, s_27⟩
theorem led46 : ledOK 46 := ⟨s_46, s_47, s_48, s_49, s_50, s_51, s_52⟩
theorem led53 : ledOK 53 := ⟨s_53, s_54, s_55, s_56, s_57, s_58, s_59⟩
def rows3 (I : hI_) (A : Nat) : Prop := rokF (I (A + 1)) 3 24 ∧ rokF (I (A + 3)) 8 12 ∧ rokF (I (A + 5)) 5 24
def bec (I I2 : hI_) (A O : Nat) : Prop := (∀ a, (a < A + 1 ∨ A + 6 < a) → I2 a = I a) ∧ (I2 (A + 1) 3 = I (O + 1) 3 ∧ I2 (A + 3) 3 = I (O + 3) 3 ∧ I2 (A + 5) 3 = I (O + 5) 3) ∧ (∀ j, j ≠ 3 → I2 (A + 1) j = I (A + 1) j ∧ I2 (A + 3) j = I (A + 3) j ∧ I2 (A + 5) j = I (A + 5) j) ∧ (∀ j, j < 72 → I2 (A + 2) j = I (O + 2) j) ∧ (∀ j, j < 96 → I2 (A + 4) j = I (O + 4) j) ∧ (∀ j, j < 120 → I2 (A + 6) j = I (O + 6) j)
theorem tX1_become {E : aE} {P : hI_ → hJ_ → Prop} {I : hI_} {J : hJ_} {A O : Nat} (hA : ledOK A) (hO : ledOK O) (hd : A + 6 < O ∨ O + 6 < A) (rA : rows3 I A) (rO : rows3 I O) (k : ∀ I2, bec I I2 A O → P I2 J) : CallV E mX1_become [.ref A, .ref O] SH I J P := by
  obtain ⟨a0, a1, a2, a3, a4, a5, a6⟩ := hA
  obtain ⟨o0, o1, o2, o3, o4, o5, o6⟩ := hO
  refine wX1_become a0 o0 a1 a3 a5 o1 o3 o5 ?_
  refine tX5_become (w := 3) (m := 24) a1 a2 o1 o2 (by omega) rA.1 rO.1 (by omega) (by omega) (fun I1 x1 x2 x3 x4 => ?_)
  refine tX5_become (w := 8) (m := 12) a3 a4 o3 o4 (by omega) (by rw [x1 _ (by omega) (by omega)]; exact rA.2.1) (by rw [x1 _ (by omega) (by omega)]; exact rO.2.1) (by omega) (by omega) (fun I2 y1 y2 y3 y4 => ?_)
  refine tX5_become (w := 5) (m := 24) a5 a6 o5 o6 (by omega) (by rw [y1 _ (by omega) (by omega), x1 _ (by omega) (by omega)]; exact rA.2.2) (by rw [y1 _ (by omega) (by omega), x1 _ (by omega) (by omega)]; exact rO.2.2) (by omega) (by omega) (fun I3 z1 z2 z3 z4 => k I3 ?_)
  refine ⟨fun a ha => ?_, ⟨?_, ?_, ?_⟩, fun j hj => ⟨?_, ?_, ?_⟩, fun j hj => ?_, fun j hj => ?_, fun j hj => ?_⟩
  · rw [z1 a (by omega) (by omega), y1 a (by omega) (by omega), x1 a (by omega) (by omega)]
  · rw [z1 _ (by omega) (by omega), y1 _ (by omega) (by omega)]; exact x2
  · rw [z1 _ (by omega) (by omega), y2, x1 _ (by omega) (by omega)]
  · rw [z2, y1 _ (by omega) (by omega), x1 _ (by omega) (by omega)]
  · rw [z1 _ (by omega) (by omega), y1 _ (by omega) (by omega)]; exact x3 j hj
  · rw [z1 _ (by omega) (by omega), y3 j hj, x1 _ (by omega) (by omega)]
  · rw [z3 j hj, y1 _ (by omega) (by omega), x1 _ (by omega) (by omega)]
  · rw [z1 _ (by omega) (by omega), y1 _ (by omega) (by omega)]; exact x4 j hj
  · rw [z1 _ (by omega) (by omega), y4 j hj, x1 _ (by omega) (by omega)]
  · rw [z4 j hj, y1 _ (by omega) (by omega), x1 _ (by omega) (by omega)]
/-- a ledger's relation looks at no more than the rows that are there -/
theorem RLed_cp {a1 b1 a2 b2 a3 b3 S a1' b1' a2' b2' a3' b3' S' : Nat → Int32} {off off' : Nat} {np : Int} {w : Wld} (h : RLed a1 b1 a2 b2 a3 b3 S off np w) (n1 : (a1 3).toInt ≤ 24) (n2 : (a2 3).toInt ≤ 12) (n3 : (a3 3).toInt ≤ 24) (e1 : a1' 3 = a1 3) (e2 : a2' 3 = a2 3) (e3 : a3' 3 = a3 3) (f1 : ∀ j, j < 72 → b1' j = b1 j) (f2 : ∀ j, j < 96 → b2' j = b2 j) (f3 : ∀ j, j < 120 → b3' j = b3 j) (f4 : ∀ j, j < 300 → S' (off' + j) = S (off + j)) : RLed a1' b1' a2' b2' a3' b3' S' off' np w := by
  rw [RLed_sh] at h ⊢
  have g : ∀ j, j < 300 → (fun j => S' (off' + j)) j = (fun j => S (off + j)) j := fun j hj => f4 j hj
  generalize (fun j => S' (off' + j)) = T' at g ⊢
  generalize (fun j => S (off + j)) = T at g h
  obtain ⟨⟨s1, s2⟩, ⟨c1, c2⟩, d1, d2⟩ := h
  refine ⟨⟨?_, fun k hk => ?_⟩, ⟨?_, fun c hc => ?_⟩, ?_, fun d hd => ?_⟩
  · rw [e1, g _ (by omega)]; exact s1
  · rw [e1] at hk
    rw [f1 _ (by omega), f1 _ (by omega), f1 _ (by omega), g _ (by omega), g _ (by omega), g _ (by omega)]; exact s2 k hk
  · rw [e2, g _ (by omega)]; exact c1
  · rw [e2] at hc
    obtain ⟨g1, g2, g3⟩ := c2 c hc
    refine ⟨fun j hj => ?_, ?_, ?_⟩
    · rw [f2 _ (by omega), g _ (by omega)]; exact g1 j hj
    · unfold callB at g2 ⊢
      rw [f2 (8 * c) (by omega), f2 (8 * c + 1) (by omega), f2 (8 * c + 2) (by omega), f2 (8 * c + 3) (by omega), f2 (8 * c + 4) (by omega), f2 (8 * c + 5) (by omega), f2 (8 * c + 6) (by omega)]; exact g2
    · rw [f2 _ (by omega), f2 _ (by omega), g _ (by omega)]; exact g3
  · rw [e3, g _ (by omega)]; exact d1
  · rw [e3] at hd
    obtain ⟨g1, p, c, m, q, t, b0, b1, b2, b3, b4, b5, b6, b7, b8, b9, b10, b11, b12, b13⟩ := d2 d hd
    have b4' := b4
    rw [e2]
    refine ⟨fun j hj => ?_, p, c, m, q, t, ?_, ?_, ?_, b3, b4, b5, ?_, ?_, b8, b9, ?_, b11, ?_, b13⟩
    · rw [f3 _ (by omega), g _ (by omega)]; exact g1 j hj
    · rw [f3 _ (by omega)]; exact b0
    · rw [f3 _ (by omega)]; exact b1
    · rw [f3 _ (by omega)]; exact b2
    · rw [f3 _ (by omega)]; exact b6
    · rw [f2 _ (by omega)]; exact b7
    · rw [f2 _ (by omega)]; exact b10
    · rw [f3 _ (by omega)]; exact b12
def imOK (I : hI_) (k : Nat) : Prop := RImg (I (46 + 7 * k) 4) (I 90 k) (I (46 + 7 * k + 1)) (I (46 + 7 * k + 2)) (I (46 + 7 * k + 3)) (I (46 + 7 * k + 4)) (I (46 + 7 * k + 5)) (I (46 + 7 * k + 6)) (I 82) (300 + 300 * k) (I 73 0).toInt (wI I)
theorem Rel_imk {I : hI_} (h : Rel I) {k : Nat} (hk : k < 2) : imOK I k ∧ rows3 I (46 + 7 * k) := by
  have r := h.2.2.1
  rcases (show k = 0 ∨ k = 1 by omega) with rfl | rfl
  · exact ⟨h.2.2.2.2.1.1, r.2.2.2.1, r.2.2.2.2.1, r.2.2.2.2.2.1⟩
  · exact ⟨h.2.2.2.2.1.2, r.2.2.2.2.2.2⟩
theorem Rel_21 {I : hI_} (h : Rel I) : rows3 I 21 := ⟨h.2.2.1.1, h.2.2.1.2.1, h.2.2.1.2.2.1⟩
theorem Rel_im {I I2 : hI_} (h : Rel I) (ho : ∀ a, (a < 22 ∨ (27 < a ∧ a < 46) ∨ 59 < a) → a ≠ 82 → a ≠ 90 → I2 a = I a) (hr : rows3 I2 21) (hl : RLed (I2 22) (I2 23) (I2 24) (I2 25) (I2 26) (I2 27) (I2 82) 0 (I 73 0).toInt (wI I)) (hi : ∀ k, k < 2 → imOK I2 k ∧ rows3 I2 (46 + 7 * k)) : Rel I2 := by
  have f : ∀ a, (a < 22 ∨ (27 < a ∧ a < 46) ∨ 59 < a) → a ≠ 82 → a ≠ 90 → I2 a = I a := ho
  have ew : wI I2 = wI I := by unfold wI; rw [f 73 (by omega) (by omega) (by omega), f 75 (by omega) (by omega) (by omega), f 76 (by omega) (by omega) (by omega)]
  obtain ⟨i0, j0⟩ := hi 0 (by omega)
  obtain ⟨i1, j1⟩ := hi 1 (by omega)
  obtain ⟨r1, r2, r3, -, r5, r6, r7, r8, r9⟩ := h
  refine ⟨?_, ?_, ⟨hr.1, hr.2.1, hr.2.2, j0.1, j0.2.1, j0.2.2, j1.1, j1.2.1, j1.2.2⟩, ?_, ⟨i0, i1⟩, ?_, ?_, ?_, ?_⟩
  · rw [f 1 (by omega) (by omega) (by omega), f 2 (by omega) (by omega) (by omega), f 68 (by omega) (by omega) (by omega), f 69 (by omega) (by omega) (by omega)]; exact r1
  · unfold RPlanI at r2 ⊢
    rw [f 3 (by omega) (by omega) (by omega), f 4 (by omega) (by omega) (by omega), f 5 (by omega) (by omega) (by omega), f 6 (by omega) (by omega) (by omega), f 7 (by omega) (by omega) (by omega), f 8 (by omega) (by omega) (by omega), f 9 (by omega) (by omega) (by omega), f 73 (by omega) (by omega) (by omega), f 74 (by omega) (by omega) (by omega), f 75 (by omega) (by omega) (by omega), f 76 (by omega) (by omega) (by omega)]; exact r2
  · unfold RLedI
    rw [ew, f 73 (by omega) (by omega) (by omega)]; exact hl
  · unfold RSheetI at r6 ⊢
    rw [f 60 (by omega) (by omega) (by omega), f 61 (by omega) (by omega) (by omega), f 62 (by omega) (by omega) (by omega), f 63 (by omega) (by omega) (by omega), f 64 (by omega) (by omega) (by omega), f 65 (by omega) (by omega) (by omega), f 66 (by omega) (by omega) (by omega), f 67 (by omega) (by omega) (by omega), f 91 (by omega) (by omega) (by omega), f 92 (by omega) (by omega) (by omega), f 93 (by omega) (by omega) (by omega)]; exact r6
  · rw [f 70 (by omega) (by omega) (by omega), f 71 (by omega) (by omega) (by omega), f 72 (by omega) (by omega) (by omega)]; exact r7
  · rw [f 0 (by omega) (by omega) (by omega), f 68 (by omega) (by omega) (by omega)]; exact r8
  · rw [f 0 (by omega) (by omega) (by omega), f 68 (by omega) (by omega) (by omega)]; exact r9
theorem im_ref {k : Nat} (hk : k < 2) : ([49, 56] : List Nat).getD (nI k).toNatClampNeg 2 = (46 + 7 * k) + 3 ∧ ledOK (46 + 7 * k) := by
  rcases (show k = 0 ∨ k = 1 by omega) with rfl | rfl
  · exact ⟨rfl, led46⟩
  · exact ⟨rfl, led53⟩
theorem c300_nI (k j : Nat) : (300 : Int32) * (nI k + 1) + nI j = nI (300 + 300 * k + j) := by rw [nI_1, show (300 : Int32) = nI 300 from rfl, pk_mul, nI_add, show 300 * (k + 1) + j = 300 + 300 * k + j by omega]
set_option maxHeartbeats 4000000 in
set_option maxRecDepth 20000 in
theorem wX11_keep {E : aE} {P : Int32 → hI_ → hJ_ → Prop} {I : hI_} {J : hJ_} {a0 : Int32} (k : ((((0 : Int32) ≤ a0 ∧ a0 ≤ (1 : Int32)) → (vp_in a0 2) ∧ (∃ b3 b6 b7 b8 : Nat, ([49, 56].getD a0.toNatClampNeg 2 = b3 + 3) ∧ (SH[b3]? = some (.inr (1, [6, b6 + 3, b7 + 3, b8 + 3, 0]))) ∧ (vp_in a0 2) ∧ (∃ b2015 b2018 b2019 b2020 : Nat, ([49, 56].getD a0.toNatClampNeg 2 = b2015 + 3) ∧ (SH[b2015]? = some (.inr (1, [6, b2018 + 3, b2019 + 3, b2020 + 3, 0]))) ∧ CallV E mX1_become [.ref b2015, .ref 21] SH I J (fun I2025 J2026 => (vp_in a0 2) ∧ (∃ b2028 b2031 b2032 b2033 : Nat, ([49, 56].getD a0.toNatClampNeg 2 = b2028 + 3) ∧ (SH[b2028]? = some (.inr (1, [6, b2031 + 3, b2032 + 3, b2033 + 3, 0]))) ∧ P (b2i (¬ ((I b3 4) = (0 : Int32)))) (upI I2025 b2028 4 (1 : Int32)) J2026))))) ∧ (¬ (((0 : Int32) ≤ a0 ∧ a0 ≤ (1 : Int32))) → P (-1 : Int32) I J))) : CallI E mX11_keep [.ref 0, .int a0] SH I J P := by
  refine Call_of (L := [.ref 0, .int a0, .retAddr 0]) ok_X11_keep.1 rfl rfl ?_
  refine V_iload_n dX11_keep_0 rfl ?_
  refine V_iconst (v := (0 : Int32)) dX11_keep_1 rfl ?_
  refine V_iconst (v := (1 : Int32)) dX11_keep_2 rfl ?_
  refine U_callS1 [.int a0, .int (0 : Int32), .int (1 : Int32)] dX11_keep_3 os_X11_104 ⟨rfl, rfl, rfl⟩ rfl rfl rfl (tX11_within ?_)
  refine U_ifb_ne dX11_keep_6 (fun c1 => ?_) (fun c1 => ?_)
  · have k := k.1 c1
    refine V_aload_n dX11_keep_11 rfl ?_
    refine U_getR dX11_keep_12 fl_X11_51 s_0 rfl ?_
    refine V_iload_n dX11_keep_15 rfl ?_
    obtain ⟨hb2, k⟩ := k
    obtain ⟨b3, b6, b7, b8, ha4, ha5, k⟩ := k
    refine U_aald0 (b := b3) dX11_keep_16 s_28 hb2 ha4 ?_
    refine U_getI dX11_keep_17 fl_X11_125 ha5 rfl ?_
    have key12 : ∀ (y2013 : Int32), y2013 = (b2i (¬ ((I b3 4) = (0 : Int32)))) → V E mX11_keep (kI SH P) 28 [.ref 0, .int a0, .retAddr 0] [.int y2013] (SH, I, J) (0, 0) := by
      intro y2013 ey2013
      subst ey2013
      refine U_istore_n (L2 := [.ref 0, .int a0, .int (b2i (¬ ((I b3 4) = (0 : Int32))))]) dX11_keep_28 (by decide) rfl ?_
      refine V_aload_n dX11_keep_29 rfl ?_
      refine U_getR dX11_keep_30 fl_X11_51 s_0 rfl ?_
      refine V_iload_n dX11_keep_33 rfl ?_
      obtain ⟨hb2014, k⟩ := k
      obtain ⟨b2015, b2018, b2019, b2020, ha2016, ha2017, k⟩ := k
      refine U_aald0 (b := b2015) dX11_keep_34 s_28 hb2014 ha2016 ?_
      refine V_aload_n dX11_keep_35 rfl ?_
      refine U_getR dX11_keep_36 fl_X11_47 s_0 rfl ?_
      refine U_callV0 [.ref 21] dX11_keep_39 ov_X11_311 ha2017 rfl ⟨rfl, rfl, rfl⟩ rfl rfl rfl (CallV_mono k (fun I2025 J2026 k => ?_))
      refine V_aload_n dX11_keep_42 rfl ?_
      refine U_getR dX11_keep_43 fl_X11_51 s_0 rfl ?_
      refine V_iload_n dX11_keep_46 rfl ?_
      obtain ⟨hb2027, k⟩ := k
      obtain ⟨b2028, b2031, b2032, b2033, ha2029, ha2030, k⟩ := k
      refine U_aald0 (b := b2028) dX11_keep_47 s_28 hb2027 ha2029 ?_
      refine V_iconst (v := (1 : Int32)) dX11_keep_48 rfl ?_
      refine U_putZ dX11_keep_49 fp_X11_125 (by decide) ha2030 rfl ?_
      refine V_iload_n dX11_keep_52 rfl ?_
      exact V_iret dX11_keep_53 ⟨_, rfl, rfl⟩ rfl rfl ⟨_, _, _, rfl, rfl, k⟩
    refine V_if_eq dX11_keep_20 (fun c2037 => ?_) (fun c2037 => ?_)
    · refine V_iconst (v := (0 : Int32)) dX11_keep_27 rfl ?_
      exact key12 _ ((b2i_0.mpr (fun q => q c2037)).symm)
    · refine V_iconst (v := (1 : Int32)) dX11_keep_23 rfl ?_
      refine V_goto dX11_keep_24 ?_
      exact key12 _ ((b2i_1.mpr (c2037)).symm)
  · have k := k.2 c1
    refine V_iconst (v := (-1 : Int32)) dX11_keep_9 rfl ?_
    exact V_iret dX11_keep_10 ⟨_, rfl, rfl⟩ rfl rfl ⟨_, _, _, rfl, rfl, k⟩
def HX12_keep_14 (E : aE) (P : Int32 → hI_ → hJ_ → Prop) (v1 : Int32) (v2 : Int32) (I : hI_) (J : hJ_) : Prop := V E mX12_keep (kI SH P) 14 [.ref 68, .int v1, .int v2] [] (SH, I, J) (0, 0)
set_option maxHeartbeats 4000000 in
set_option maxRecDepth 20000 in
theorem wX12_keep {E : aE} {P : Int32 → hI_ → hJ_ → Prop} {I : hI_} {J : hJ_} {a0 : Int32} (k : ((((0 : Int32) ≤ a0 ∧ a0 ≤ (1 : Int32)) → HX12_keep_14 E P a0 (0 : Int32) I J) ∧ (¬ (((0 : Int32) ≤ a0 ∧ a0 ≤ (1 : Int32))) → P (-1 : Int32) I J))) : CallI E mX12_keep [.ref 68, .int a0] SH I J P := by
  refine Call_of (L := [.ref 68, .int a0, .retAddr 0]) ok_X12_keep.1 rfl rfl ?_
  refine V_iload_n dX12_keep_0 rfl ?_
  refine V_i2l dX12_keep_1 ?_
  refine V_lconst (v := (0 : Int64)) dX12_keep_2 rfl ?_
  refine V_lconst (v := (1 : Int64)) dX12_keep_3 rfl ?_
  refine U_callS1 [.long a0.toInt64, .long (0 : Int64), .long (1 : Int64)] dX12_keep_4 os_X12_91 ⟨rfl, rfl, rfl⟩ rfl rfl rfl (tX12_in32 (v := a0) (lo := (0 : Int32)) (hi := (1 : Int32)) rfl (by decide) (by decide) ?_)
  refine U_ifb_ne dX12_keep_7 (fun c1 => ?_) (fun c1 => ?_)
  · have k := k.1 c1
    refine V_iconst (v := (0 : Int32)) dX12_keep_12 rfl ?_
    refine U_istore_n (L2 := [.ref 68, .int a0, .int (0 : Int32)]) dX12_keep_13 (by decide) rfl ?_
    exact k
  · have k := k.2 c1
    refine V_iconst (v := (-1 : Int32)) dX12_keep_10 rfl ?_
    exact V_iret dX12_keep_11 ⟨_, rfl, rfl⟩ rfl rfl ⟨_, _, _, rfl, rfl, k⟩
set_option maxHeartbeats 4000000 in
set_option maxRecDepth 20000 in
theorem wX12_keep_14 {E : aE} {P : Int32 → hI_ → hJ_ → Prop} {I : hI_} {J : hJ_} {v1 : Int32} {v2 : Int32} (k : (((300 : Int32) ≤ v2 → (vp_in v1 2) ∧ (vp_in v1 2) ∧ P (b2i (¬ ((I 90 v1.toNatClampNeg) = (0 : Int32)))) (upI I 90 v1.toNatClampNeg (1 : Int32)) J) ∧ (¬ ((300 : Int32) ≤ v2) → (vp_in v2 900) ∧ (vp_in (((300 : Int32) * (v1 + (1 : Int32))) + v2) 900) ∧ HX12_keep_14 E P v1 (v2 + (1 : Int32)) (upI I 82 ((((300 : Int32) * (v1 + (1 : Int32))) + v2).toNatClampNeg) (I 82 v2.toNatClampNeg)) J))) : HX12_keep_14 E P v1 v2 I J := by
  show V E mX12_keep (kI SH P) 14 [.ref 68, .int v1, .int v2] [] (SH, I, J) (0, 0)
  refine V_iload_n dX12_keep_14 rfl ?_
  refine V_sipush (v := (300 : Int32)) dX12_keep_15 rfl ?_
  refine V_icmp_ge dX12_keep_18 (fun c1 => ?_) (fun c1 => ?_)
  · have k := k.1 c1
    refine V_aload_n dX12_keep_47 rfl ?_
    refine U_getR dX12_keep_48 fl_X12_75 s_68 rfl ?_
    refine V_iload_n dX12_keep_51 rfl ?_
    obtain ⟨hb2, k⟩ := k
    refine U_zald dX12_keep_52 s_90 hb2 ?_
    have key3 : ∀ (y2004 : Int32), y2004 = (b2i (¬ ((I 90 v1.toNatClampNeg) = (0 : Int32)))) → V E mX12_keep (kI SH P) 61 [.ref 68, .int v1, .int v2] [.int y2004] (SH, I, J) (0, 0) := by
      intro y2004 ey2004
      subst ey2004
      refine U_istore_n (L2 := [.ref 68, .int v1, .int (b2i (¬ ((I 90 v1.toNatClampNeg) = (0 : Int32))))]) dX12_keep_61 (by decide) rfl ?_
      refine V_aload_n dX12_keep_62 rfl ?_
      refine U_getR dX12_keep_63 fl_X12_75 s_68 rfl ?_
      refine V_iload_n dX12_keep_66 rfl ?_
      refine V_iconst (v := (1 : Int32)) dX12_keep_67 rfl ?_
      obtain ⟨hb2005, k⟩ := k
      refine U_zast dX12_keep_68 (by decide) s_90 hb2005 ?_
      refine V_iload_n dX12_keep_69 rfl ?_
      exact V_iret dX12_keep_70 ⟨_, rfl, rfl⟩ rfl rfl ⟨_, _, _, rfl, rfl, k⟩
    refine V_if_eq dX12_keep_53 (fun c2006 => ?_) (fun c2006 => ?_)
    · refine V_iconst (v := (0 : Int32)) dX12_keep_60 rfl ?_
      exact key3 _ ((b2i_0.mpr (fun q => q c2006)).symm)
    · refine V_iconst (v := (1 : Int32)) dX12_keep_56 rfl ?_
      refine V_goto dX12_keep_57 ?_
      exact key3 _ ((b2i_1.mpr (c2006)).symm)
  · have k := k.2 c1
    refine V_aload_n dX12_keep_21 rfl ?_
    refine U_getR dX12_keep_22 fl_X12_49 s_68 rfl ?_
    refine V_sipush (v := (300 : Int32)) dX12_keep_25 rfl ?_
    refine V_iload_n dX12_keep_28 rfl ?_
    refine V_iconst (v := (1 : Int32)) dX12_keep_29 rfl ?_
    refine V_iadd dX12_keep_30 ?_
    refine V_imul dX12_keep_31 ?_
    refine V_iload_n dX12_keep_32 rfl ?_
    refine V_iadd dX12_keep_33 ?_
    refine V_aload_n dX12_keep_34 rfl ?_
    refine U_getR dX12_keep_35 fl_X12_49 s_68 rfl ?_
    refine V_iload_n dX12_keep_38 rfl ?_
    obtain ⟨hb2007, k⟩ := k
    refine U_iald dX12_keep_39 s_82 hb2007 ?_
    obtain ⟨hb2008, k⟩ := k
    refine U_iast dX12_keep_40 s_82 hb2008 ?_
    refine U_iinc (v := v2 + (1 : Int32)) (L2 := [.ref 68, .int v1, .int (v2 + (1 : Int32))]) dX12_keep_41 (by decide) rfl rfl rfl ?_
    refine V_goto dX12_keep_44 ?_
    exact k
set_option maxHeartbeats 4000000 in
set_option maxRecDepth 20000 in
theorem wX11_back {E : aE} {P : Int32 → hI_ → hJ_ → Prop} {I : hI_} {J : hJ_} {a0 : Int32} (k : ((((0 : Int32) ≤ a0 ∧ a0 ≤ (1 : Int32)) → (vp_in a0 2) ∧ (∃ b3 b6 b7 b8 : Nat, ([49, 56].getD a0.toNatClampNeg 2 = b3 + 3) ∧ (SH[b3]? = some (.inr (1, [6, b6 + 3, b7 + 3, b8 + 3, 0]))) ∧ ((¬ (I b3 4) = (0 : Int32) → (vp_in a0 2) ∧ (∃ b14 b17 b18 b19 : Nat, ([49, 56].getD a0.toNatClampNeg 2 = b14 + 3) ∧ (SH[b14]? = some (.inr (1, [6, b17 + 3, b18 + 3, b19 + 3, 0]))) ∧ CallV E mX1_become [.ref 21, .ref b14] SH I J (fun I24 J25 => P (I24 24 3) I24 J25))) ∧ ((I b3 4) = (0 : Int32) → P (-2 : Int32) I J)))) ∧ (¬ (((0 : Int32) ≤ a0 ∧ a0 ≤ (1 : Int32))) → P (-1 : Int32) I J))) : CallI E mX11_back [.ref 0, .int a0] SH I J P := by
  refine Call_of (L := [.ref 0, .int a0]) ok_X11_back.1 rfl rfl ?_
  refine V_iload_n dX11_back_0 rfl ?_
  refine V_iconst (v := (0 : Int32)) dX11_back_1 rfl ?_
  refine V_iconst (v := (1 : Int32)) dX11_back_2 rfl ?_
  refine U_callS1 [.int a0, .int (0 : Int32), .int (1 : Int32)] dX11_back_3 os_X11_104 ⟨rfl, rfl, rfl⟩ rfl rfl rfl (tX11_within ?_)
  refine U_ifb_ne dX11_back_6 (fun c1 => ?_) (fun c1 => ?_)
  · have k := k.1 c1
    refine V_aload_n dX11_back_11 rfl ?_
    refine U_getR dX11_back_12 fl_X11_51 s_0 rfl ?_
    refine V_iload_n dX11_back_15 rfl ?_
    obtain ⟨hb2, k⟩ := k
    obtain ⟨b3, b6, b7, b8, ha4, ha5, k⟩ := k
    refine U_aald0 (b := b3) dX11_back_16 s_28 hb2 ha4 ?_
    refine U_getI dX11_back_17 fl_X11_125 ha5 rfl ?_
    refine V_if_ne dX11_back_20 (fun c12 => ?_) (fun c12 => ?_)
    · have k := k.1 c12
      refine V_aload_n dX11_back_26 rfl ?_
      refine U_getR dX11_back_27 fl_X11_47 s_0 rfl ?_
      refine V_aload_n dX11_back_30 rfl ?_
      refine U_getR dX11_back_31 fl_X11_51 s_0 rfl ?_
      refine V_iload_n dX11_back_34 rfl ?_
      obtain ⟨hb13, k⟩ := k
      obtain ⟨b14, b17, b18, b19, ha15, ha16, k⟩ := k
      refine U_aald0 (b := b14) dX11_back_35 s_28 hb13 ha15 ?_
      refine U_callV0 [.ref b14] dX11_back_36 ov_X11_311 s_21 rfl ⟨rfl, rfl, rfl⟩ rfl rfl rfl (CallV_mono k (fun I24 J25 k => ?_))
      refine V_aload_n dX11_back_39 rfl ?_
      refine U_getR dX11_back_40 fl_X11_47 s_0 rfl ?_
      refine U_getR dX11_back_43 fl_X11_203 s_21 rfl ?_
      refine U_getI dX11_back_46 fl_X11_189 s_24 rfl ?_
      exact V_iret dX11_back_49 ⟨_, rfl, rfl⟩ rfl rfl ⟨_, _, _, rfl, rfl, k⟩
    · have k := k.2 c12
      refine V_bipush (v := (-2 : Int32)) dX11_back_23 rfl ?_
      exact V_iret dX11_back_25 ⟨_, rfl, rfl⟩ rfl rfl ⟨_, _, _, rfl, rfl, k⟩
  · have k := k.2 c1
    refine V_iconst (v := (-1 : Int32)) dX11_back_9 rfl ?_
    exact V_iret dX11_back_10 ⟨_, rfl, rfl⟩ rfl rfl ⟨_, _, _, rfl, rfl, k⟩
def HX12_back_26 (E : aE) (P : Int32 → hI_ → hJ_ → Prop) (v1 : Int32) (v2 : Int32) (I : hI_) (J : hJ_) : Prop := V E mX12_back (kI SH P) 26 [.ref 68, .int v1, .int v2] [] (SH, I, J) (0, 0)
set_option maxHeartbeats 4000000 in
set_option maxRecDepth 20000 in
theorem wX12_back {E : aE} {P : Int32 → hI_ → hJ_ → Prop} {I : hI_} {J : hJ_} {a0 : Int32} (k : ((((0 : Int32) ≤ a0 ∧ a0 ≤ (1 : Int32)) → (vp_in a0 2) ∧ ((¬ (I 90 a0.toNatClampNeg) = (0 : Int32) → HX12_back_26 E P a0 (0 : Int32) I J) ∧ ((I 90 a0.toNatClampNeg) = (0 : Int32) → P (-2 : Int32) I J))) ∧ (¬ (((0 : Int32) ≤ a0 ∧ a0 ≤ (1 : Int32))) → P (-1 : Int32) I J))) : CallI E mX12_back [.ref 68, .int a0] SH I J P := by
  refine Call_of (L := [.ref 68, .int a0, .retAddr 0]) ok_X12_back.1 rfl rfl ?_
  refine V_iload_n dX12_back_0 rfl ?_
  refine V_i2l dX12_back_1 ?_
  refine V_lconst (v := (0 : Int64)) dX12_back_2 rfl ?_
  refine V_lconst (v := (1 : Int64)) dX12_back_3 rfl ?_
  refine U_callS1 [.long a0.toInt64, .long (0 : Int64), .long (1 : Int64)] dX12_back_4 os_X12_91 ⟨rfl, rfl, rfl⟩ rfl rfl rfl (tX12_in32 (v := a0) (lo := (0 : Int32)) (hi := (1 : Int32)) rfl (by decide) (by decide) ?_)
  refine U_ifb_ne dX12_back_7 (fun c1 => ?_) (fun c1 => ?_)
  · have k := k.1 c1
    refine V_aload_n dX12_back_12 rfl ?_
    refine U_getR dX12_back_13 fl_X12_75 s_68 rfl ?_
    refine V_iload_n dX12_back_16 rfl ?_
    obtain ⟨hb2, k⟩ := k
    refine U_zald dX12_back_17 s_90 hb2 ?_
    refine V_if_ne dX12_back_18 (fun c3 => ?_) (fun c3 => ?_)
    · have k := k.1 c3
      refine V_iconst (v := (0 : Int32)) dX12_back_24 rfl ?_
      refine U_istore_n (L2 := [.ref 68, .int a0, .int (0 : Int32)]) dX12_back_25 (by decide) rfl ?_
      exact k
    · have k := k.2 c3
      refine V_bipush (v := (-2 : Int32)) dX12_back_21 rfl ?_
      exact V_iret dX12_back_23 ⟨_, rfl, rfl⟩ rfl rfl ⟨_, _, _, rfl, rfl, k⟩
  · have k := k.2 c1
    refine V_iconst (v := (-1 : Int32)) dX12_back_10 rfl ?_
    exact V_iret dX12_back_11 ⟨_, rfl, rfl⟩ rfl rfl ⟨_, _, _, rfl, rfl, k⟩
set_option maxHeartbeats 4000000 in
set_option maxRecDepth 20000 in
theorem wX12_back_26 {E : aE} {P : Int32 → hI_ → hJ_ → Prop} {I : hI_} {J : hJ_} {v1 : Int32} {v2 : Int32} (k : (((300 : Int32) ≤ v2 → P (I 82 281) I J) ∧ (¬ ((300 : Int32) ≤ v2) → (vp_in (((300 : Int32) * (v1 + (1 : Int32))) + v2) 900) ∧ (vp_in v2 900) ∧ HX12_back_26 E P v1 (v2 + (1 : Int32)) (upI I 82 v2.toNatClampNeg (I 82 (((300 : Int32) * (v1 + (1 : Int32))) + v2).toNatClampNeg)) J))) : HX12_back_26 E P v1 v2 I J := by
  show V E mX12_back (kI SH P) 26 [.ref 68, .int v1, .int v2] [] (SH, I, J) (0, 0)
  refine V_iload_n dX12_back_26 rfl ?_
  refine V_sipush (v := (300 : Int32)) dX12_back_27 rfl ?_
  refine V_icmp_ge dX12_back_30 (fun c1 => ?_) (fun c1 => ?_)
  · have k := k.1 c1
    refine V_aload_n dX12_back_59 rfl ?_
    refine U_getR dX12_back_60 fl_X12_49 s_68 rfl ?_
    refine V_sipush (v := (281 : Int32)) dX12_back_63 rfl ?_
    refine U_ialdx (x := I 82 281) dX12_back_66 s_82 (by unfold vp_in; decide) rfl ?_
    exact V_iret dX12_back_67 ⟨_, rfl, rfl⟩ rfl rfl ⟨_, _, _, rfl, rfl, k⟩
  · have k := k.2 c1
    refine V_aload_n dX12_back_33 rfl ?_
    refine U_getR dX12_back_34 fl_X12_49 s_68 rfl ?_
    refine V_iload_n dX12_back_37 rfl ?_
    refine V_aload_n dX12_back_38 rfl ?_
    refine U_getR dX12_back_39 fl_X12_49 s_68 rfl ?_
    refine V_sipush (v := (300 : Int32)) dX12_back_42 rfl ?_
    refine V_iload_n dX12_back_45 rfl ?_
    refine V_iconst (v := (1 : Int32)) dX12_back_46 rfl ?_
    refine V_iadd dX12_back_47 ?_
    refine V_imul dX12_back_48 ?_
    refine V_iload_n dX12_back_49 rfl ?_
    refine V_iadd dX12_back_50 ?_
    obtain ⟨hb2, k⟩ := k
    refine U_iald dX12_back_51 s_82 hb2 ?_
    obtain ⟨hb3, k⟩ := k
    refine U_iast dX12_back_52 s_82 hb3 ?_
    refine U_iinc (v := v2 + (1 : Int32)) (L2 := [.ref 68, .int v1, .int (v2 + (1 : Int32))]) dX12_back_53 (by decide) rfl rfl rfl ?_
    refine V_goto dX12_back_56 ?_
    exact k
theorem keepM_loop {E : aE} {P : Int32 → hI_ → hJ_ → Prop} {I0 : hI_} {J : hJ_} {k : Nat} (hk : k < 2) (kk : ∀ I2, (∀ a, a ≠ 82 → I2 a = I0 a) → (∀ j, j < 300 → I2 82 (300 + 300 * k + j) = I0 82 j) → (∀ j, (j < 300 + 300 * k ∨ 600 + 300 * k ≤ j) → I2 82 j = I0 82 j) → P (b2i (¬ (I2 90 k) = 0)) (upI I2 90 k 1) J) : ∀ (m i : Nat) (I : hI_), i + m = 300 → (∀ a, a ≠ 82 → I a = I0 a) → (∀ j, j < i → I 82 (300 + 300 * k + j) = I0 82 j) → (∀ j, (j < 300 + 300 * k ∨ 600 + 300 * k ≤ j) → I 82 j = I0 82 j) → HX12_keep_14 E P (nI k) (nI i) I J
  | 0, i, I, hi, h1, h2, h3 => by
    have c := nI_clamp (n := k) (by omega)
    refine wX12_keep_14 ⟨fun _ => ⟨vp_in_nI (by omega) (by omega), vp_in_nI (by omega) (by omega), ?_⟩, fun z => absurd (nI_le (a := 300) (by omega) (by omega)) z⟩
    rw [c]
    exact kk I h1 (fun j hj => h2 j (by omega)) h3
  | m + 1, i, I, hi, h1, h2, h3 => by
    refine wX12_keep_14 ⟨fun z => absurd z (nI_ge (b := 300) (by omega) (by omega)), fun _ => ?_⟩
    rw [c300_nI, nI_1, nI_clamp (by omega), nI_clamp (by omega)]
    refine ⟨vp_in_nI (by omega) (by omega), vp_in_nI (by omega) (by omega), keepM_loop hk kk m (i + 1) _ (by omega) (fun a ha => ?_) (fun j hj => ?_) (fun j hj => ?_)⟩
    · rw [← h1 a ha]; funext j; rw [upI_at, if_neg (fun z => ha z.1)]
    · rw [upI_at]
      by_cases e : j = i
      · rw [e, if_pos ⟨rfl, rfl⟩]; exact h3 i (by omega)
      · rw [if_neg (by omega)]; exact h2 j (by omega)
    · rw [upI_at, if_neg (by omega)]; exact h3 j hj
theorem backM_loop {E : aE} {P : Int32 → hI_ → hJ_ → Prop} {I0 : hI_} {J : hJ_} {k : Nat} (hk : k < 2) (kk : ∀ I2, (∀ a, a ≠ 82 → I2 a = I0 a) → (∀ j, j < 300 → I2 82 j = I0 82 (300 + 300 * k + j)) → (∀ j, 300 ≤ j → I2 82 j = I0 82 j) → P (I2 82 281) I2 J) : ∀ (m i : Nat) (I : hI_), i + m = 300 → (∀ a, a ≠ 82 → I a = I0 a) → (∀ j, j < i → I 82 j = I0 82 (300 + 300 * k + j)) → (∀ j, 300 ≤ j → I 82 j = I0 82 j) → HX12_back_26 E P (nI k) (nI i) I J
  | 0, i, I, hi, h1, h2, h3 => wX12_back_26 ⟨fun _ => kk I h1 (fun j hj => h2 j (by omega)) h3, fun z => absurd (nI_le (a := 300) (by omega) (by omega)) z⟩
  | m + 1, i, I, hi, h1, h2, h3 => by
    refine wX12_back_26 ⟨fun z => absurd z (nI_ge (b := 300) (by omega) (by omega)), fun _ => ?_⟩
    rw [c300_nI, nI_1, nI_clamp (by omega), nI_clamp (by omega)]
    refine ⟨vp_in_nI (by omega) (by omega), vp_in_nI (by omega) (by omega), backM_loop hk kk m (i + 1) _ (by omega) (fun a ha => ?_) (fun j hj => ?_) (fun j hj => ?_)⟩
    · rw [← h1 a ha]; funext j; rw [upI_at, if_neg (fun z => ha z.1)]
    · rw [upI_at]
      by_cases e : j = i
      · rw [e, if_pos ⟨rfl, rfl⟩]; exact h3 _ (by omega)
      · rw [if_neg (by omega)]; exact h2 j (by omega)
    · rw [upI_at, if_neg (by omega)]; exact h3 j hj
theorem op_keep {E : aE} {I : hI_} {J : hJ_} {P : hI_ → hJ_ → Prop} {a0 : Int32} (h : Rel I) (hP : ∀ I2 J2, Rel I2 → P I2 J2) : Op2 E mX11_keep mX12_keep [.int a0] I J P := by
  have kI := hP I J h
  refine wX11_keep ⟨fun c1 => ?_, fun c1 => wX12_keep ⟨fun d => absurd d c1, fun _ => ⟨rfl, kI⟩⟩⟩
  obtain ⟨x, hx, rfl⟩ := in_le (n := 1) rfl c1
  obtain ⟨q1, q2⟩ := im_ref (k := x) (by omega)
  have q3 := q2.1
  have vx : vp_in (nI x) 2 := vp_in_nI (by omega) (by omega)
  have r21 := Rel_21 h
  obtain ⟨im, rim⟩ := Rel_imk h (k := x) (by omega)
  refine ⟨vx, 46 + 7 * x, 46 + 7 * x + 1, 46 + 7 * x + 3, 46 + 7 * x + 5, q1, q3, vx, 46 + 7 * x, 46 + 7 * x + 1, 46 + 7 * x + 3, 46 + 7 * x + 5, q1, q3, ?_⟩
  refine tX1_become q2 led21 (by omega) rim r21 (fun I1 hb => ⟨vx, 46 + 7 * x, 46 + 7 * x + 1, 46 + 7 * x + 3, 46 + 7 * x + 5, q1, q3, ?_⟩)
  obtain ⟨b1, b2, b3, b4, b5, b6⟩ := hb
  generalize hF : upI I1 (46 + 7 * x) 4 1 = F
  have Fo : ∀ a, a ≠ 46 + 7 * x → F a = I1 a := fun a e => by rw [← hF]; funext j; rw [upI_at, if_neg (fun z => e z.1)]
  have F4 : F (46 + 7 * x) 4 = 1 := by rw [← hF]; exact upI_same
  have Fs : ∀ a, (a < 46 + 7 * x ∨ 52 + 7 * x < a) → F a = I a := fun a e => by rw [Fo a (by omega), b1 a (by omega)]
  refine wX12_keep ⟨fun _ => ?_, fun d => absurd c1 d⟩
  refine keepM_loop (I0 := F) (k := x) (by omega) (fun I2 g1 g2 g3 => ?_) 300 0 F (by omega) (fun _ _ => rfl) (fun j hj => by omega) (fun _ _ => rfl)
  have e90 : I2 90 x = I 90 x := by rw [g1 90 (by omega), Fs 90 (by omega)]
  refine ⟨?_, hP _ _ ?_⟩
  · rw [e90, im.1]
  · generalize hG : upI I2 90 x 1 = G
    have Go : ∀ a, a ≠ 90 → G a = I2 a := fun a e => by rw [← hG]; funext j; rw [upI_at, if_neg (fun z => e z.1)]
    have G90 : G 90 x = 1 := by rw [← hG]; exact upI_same
    have G90o : ∀ j, j ≠ x → G 90 j = I 90 j := fun j e => by rw [← hG, upI_at, if_neg (fun z => e z.2), g1 90 (by omega), Fs 90 (by omega)]
    have GF : ∀ a, a ≠ 90 → a ≠ 82 → G a = F a := fun a e1 e2 => by rw [Go a e1, g1 a e2]
    have GI : ∀ a, a ≠ 90 → a ≠ 82 → (a < 46 + 7 * x ∨ 52 + 7 * x < a) → G a = I a := fun a e1 e2 e3 => by rw [GF a e1 e2, Fs a e3]
    have s82 : ∀ j, (j < 300 + 300 * x ∨ 600 + 300 * x ≤ j) → G 82 j = I 82 j := fun j hj => by rw [Go 82 (by omega), g3 j hj, Fs 82 (by omega)]
    have t82 : ∀ j, j < 300 → G 82 (300 + 300 * x + j) = I 82 j := fun j hj => by rw [Go 82 (by omega), g2 j hj, Fs 82 (by omega)]
    have ew : wI G = wI I := by unfold wI; rw [GI 73 (by omega) (by omega) (by omega), GI 75 (by omega) (by omega) (by omega), GI 76 (by omega) (by omega) (by omega)]
    have l1 := (lt_of_rok r21.1).2
    have l2 := (lt_of_rok r21.2.1).2
    have l3 := (lt_of_rok r21.2.2).2
    have hl : RLed (I 22) (I 23) (I 24) (I 25) (I 26) (I 27) (I 82) 0 (I 73 0).toInt (wI I) := h.2.2.2.1
    refine Rel_im h (fun a e1 e2 e3 => GI a e3 e2 (by omega)) ?_ ?_ (fun y hy => ?_)
    · unfold rows3
      rw [GI _ (by omega) (by omega) (by omega), GI _ (by omega) (by omega) (by omega), GI _ (by omega) (by omega) (by omega)]; exact r21
    · rw [GI 22 (by omega) (by omega) (by omega), GI 23 (by omega) (by omega) (by omega), GI 24 (by omega) (by omega) (by omega), GI 25 (by omega) (by omega) (by omega), GI 26 (by omega) (by omega) (by omega), GI 27 (by omega) (by omega) (by omega)]
      exact RLed_cp hl l1 l2 l3 rfl rfl rfl (fun _ _ => rfl) (fun _ _ => rfl) (fun _ _ => rfl) (fun j hj => s82 _ (by omega))
    · by_cases e : y = x
      · subst e
        have u : ∀ a, 46 + 7 * y < a → a ≤ 52 + 7 * y → G a = I1 a := fun a e1 e2 => by rw [GF a (by omega) (by omega), Fo a (by omega)]
        have v4 : G (46 + 7 * y) 4 = 1 := by rw [GF _ (by omega) (by omega)]; exact F4
        refine ⟨?_, ?_⟩
        · unfold imOK RImg
          rw [v4, G90, ew, GI 73 (by omega) (by omega) (by omega), u _ (by omega) (by omega), u _ (by omega) (by omega), u _ (by omega) (by omega), u _ (by omega) (by omega), u _ (by omega) (by omega), u _ (by omega) (by omega)]
          exact ⟨rfl, Or.inr ⟨rfl, RLed_cp hl l1 l2 l3 b2.1 b2.2.1 b2.2.2 b4 b5 b6 (fun j hj => by rw [t82 j hj, Nat.zero_add])⟩⟩
        · unfold rows3
          rw [u _ (by omega) (by omega), u _ (by omega) (by omega), u _ (by omega) (by omega)]
          have z : ∀ {f g o : Nat → Int32} {w m : Int32}, rokF g w m → rokF o w m → f 3 = o 3 → f 1 = g 1 → f 0 = g 0 → rokF f w m := fun hg ho f3 f1 f0 => ⟨f1.trans hg.1, f0.trans hg.2.1, by rw [f3]; exact ho.2.2.1, by rw [f3]; exact ho.2.2.2⟩
          have w1 := b3 1 (by omega)
          have w0 := b3 0 (by omega)
          exact ⟨z rim.1 r21.1 b2.1 w1.1 w0.1, z rim.2.1 r21.2.1 b2.2.1 w1.2.1 w0.2.1, z rim.2.2 r21.2.2 b2.2.2 w1.2.2 w0.2.2⟩
      · obtain ⟨im2, rim2⟩ := Rel_imk h hy
        have u : ∀ a, 46 + 7 * y ≤ a → a ≤ 52 + 7 * y → G a = I a := fun a e1 e2 => GI a (by omega) (by omega) (by omega)
        refine ⟨?_, ?_⟩
        · unfold imOK RImg at im2 ⊢
          rw [G90o y e, ew, GI 73 (by omega) (by omega) (by omega), u _ (by omega) (by omega), u _ (by omega) (by omega), u _ (by omega) (by omega), u _ (by omega) (by omega), u _ (by omega) (by omega), u _ (by omega) (by omega), u _ (by omega) (by omega)]
          obtain ⟨i1, i2⟩ := im2
          refine ⟨i1, ?_⟩
          rcases i2 with i2 | i2
          · exact Or.inl i2
          · exact Or.inr ⟨i2.1, RLed_cp i2.2 (lt_of_rok rim2.1).2 (lt_of_rok rim2.2.1).2 (lt_of_rok rim2.2.2).2 rfl rfl rfl (fun _ _ => rfl) (fun _ _ => rfl) (fun _ _ => rfl) (fun j hj => s82 _ (by omega))⟩
        · unfold rows3
          rw [u _ (by omega) (by omega), u _ (by omega) (by omega), u _ (by omega) (by omega)]; exact rim2
theorem op_back {E : aE} {I : hI_} {J : hJ_} {P : hI_ → hJ_ → Prop} {a0 : Int32} (h : Rel I) (hP : ∀ I2 J2, Rel I2 → P I2 J2) : Op2 E mX11_back mX12_back [.int a0] I J P := by
  have kI := hP I J h
  refine wX11_back ⟨fun c1 => ?_, fun c1 => wX12_back ⟨fun d => absurd d c1, fun _ => ⟨rfl, kI⟩⟩⟩
  obtain ⟨x, hx, rfl⟩ := in_le (n := 1) rfl c1
  obtain ⟨q1, q2⟩ := im_ref (k := x) (by omega)
  have q3 := q2.1
  have vx : vp_in (nI x) 2 := vp_in_nI (by omega) (by omega)
  have cx : (nI x).toNatClampNeg = x := nI_clamp (by omega)
  have r21 := Rel_21 h
  obtain ⟨im, rim⟩ := Rel_imk h (k := x) (by omega)
  have im0 := im.1
  refine ⟨vx, 46 + 7 * x, 46 + 7 * x + 1, 46 + 7 * x + 3, 46 + 7 * x + 5, q1, q3, fun c2 => ⟨vx, 46 + 7 * x, 46 + 7 * x + 1, 46 + 7 * x + 3, 46 + 7 * x + 5, q1, q3, ?_⟩, fun c2 => wX12_back ⟨fun _ => ⟨vx, fun d => absurd (by rw [cx, ← im0]; exact c2) d, fun _ => ⟨rfl, kI⟩⟩, fun d => absurd c1 d⟩⟩
  rw [im0] at c2
  have hk := im.2
  rcases hk with hk | ⟨-, hk⟩
  · exact absurd hk c2
  refine tX1_become led21 q2 (by omega) r21 rim (fun I1 hb => ?_)
  obtain ⟨b1, b2, b3, b4, b5, b6⟩ := hb
  have s90 : I1 90 = I 90 := b1 90 (by omega)
  refine wX12_back ⟨fun _ => ⟨vx, fun _ => ?_, fun d => absurd (by rw [cx, s90] at d; exact d) c2⟩, fun d => absurd c1 d⟩
  refine backM_loop (I0 := I1) (k := x) (by omega) (fun G g1 g2 g3 => ?_) 300 0 I1 (by omega) (fun _ _ => rfl) (fun j hj => by omega) (fun _ _ => rfl)
  have e82 : I1 82 = I 82 := b1 82 (by omega)
  have GI : ∀ a, a ≠ 82 → (a < 22 ∨ 27 < a) → G a = I a := fun a e1 e2 => by rw [g1 a e1, b1 a (by omega)]
  have GX : ∀ a, a ≠ 82 → G a = I1 a := g1
  have ew : wI G = wI I := by unfold wI; rw [GI 73 (by omega) (by omega), GI 75 (by omega) (by omega), GI 76 (by omega) (by omega)]
  have l1 := (lt_of_rok rim.1).2
  have l2 := (lt_of_rok rim.2.1).2
  have l3 := (lt_of_rok rim.2.2).2
  refine ⟨?_, hP _ _ ?_⟩
  · rw [g2 281 (by omega), e82]
    have z := hk.2.1.1
    rw [b2.2.1, z]
  · refine Rel_im h (fun a e1 e2 e3 => GI a e2 (by omega)) ?_ ?_ (fun y hy => ?_)
    · unfold rows3
      rw [GX _ (by omega), GX _ (by omega), GX _ (by omega)]
      have z : ∀ {f g o : Nat → Int32} {w m : Int32}, rokF g w m → rokF o w m → f 3 = o 3 → f 1 = g 1 → f 0 = g 0 → rokF f w m := fun hg ho f3 f1 f0 => ⟨f1.trans hg.1, f0.trans hg.2.1, by rw [f3]; exact ho.2.2.1, by rw [f3]; exact ho.2.2.2⟩
      have w1 := b3 1 (by omega)
      have w0 := b3 0 (by omega)
      exact ⟨z r21.1 rim.1 b2.1 w1.1 w0.1, z r21.2.1 rim.2.1 b2.2.1 w1.2.1 w0.2.1, z r21.2.2 rim.2.2 b2.2.2 w1.2.2 w0.2.2⟩
    · rw [GX 22 (by omega), GX 23 (by omega), GX 24 (by omega), GX 25 (by omega), GX 26 (by omega), GX 27 (by omega)]
      exact RLed_cp hk l1 l2 l3 b2.1 b2.2.1 b2.2.2 b4 b5 b6 (fun j hj => by rw [Nat.zero_add, g2 j hj, e82])
    · obtain ⟨im2, rim2⟩ := Rel_imk h hy
      have u : ∀ a, 46 + 7 * y ≤ a → a ≤ 52 + 7 * y → G a = I a := fun a e1 e2 => GI a (by omega) (by omega)
      refine ⟨?_, ?_⟩
      · unfold imOK RImg at im2 ⊢
        rw [GI 90 (by omega) (by omega), ew, GI 73 (by omega) (by omega), u _ (by omega) (by omega), u _ (by omega) (by omega), u _ (by omega) (by omega), u _ (by omega) (by omega), u _ (by omega) (by omega), u _ (by omega) (by omega), u _ (by omega) (by omega)]
        obtain ⟨i1, i2⟩ := im2
        refine ⟨i1, ?_⟩
        rcases i2 with i2 | i2
        · exact Or.inl i2
        · exact Or.inr ⟨i2.1, RLed_cp i2.2 (lt_of_rok rim2.1).2 (lt_of_rok rim2.2.1).2 (lt_of_rok rim2.2.2).2 rfl rfl rfl (fun _ _ => rfl) (fun _ _ => rfl) (fun _ _ => rfl) (fun j hj => by rw [g3 _ (by omega), e82])⟩
      · unfold rows3
        rw [u _ (by omega) (by omega), u _ (by omega) (by omega), u _ (by omega) (by omega)]; exact rim2
