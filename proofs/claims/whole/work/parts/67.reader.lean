/-! the class's reader -/
def XD (D : Nat → Nat) (I : hI_) : Prop := (I 10 6 = nI (D 0) ∧ I 10 7 = nI (D 1) ∧ I 10 8 = nI (D 2) ∧ I 10 9 = nI (D 6) ∧ I 10 10 = nI (D 7)) ∧ (I 17 4 = nI (D 8) ∧ I 17 5 = nI (D 9) ∧ I 17 6 = nI (D 10) ∧ I 17 2 = 0) ∧ (I 16 0 = nI (D 3) ∧ I 16 1 = nI (D 4) ∧ I 16 2 = nI (D 5)) ∧ (∀ i, i < D 0 → I 11 i = nI (D (20 + i))) ∧ (∀ a b, a < 5 → b < 5 → I 12 (prN a b) = nI (D (40 + 5 * a + b))) ∧ ∀ s, s < D 2 → I 13 s = nI (prN (D (100 + 4 * s)) (D (101 + 4 * s))) ∧ I 14 s = nI (D (102 + 4 * s)) ∧ I 15 s = nI (D (103 + 4 * s))
def frX (I I2 : hI_) : Prop := (∀ a, (a = 0 ∨ (2 ≤ a ∧ a < 10) ∨ 18 ≤ a) → I2 a = I a) ∧ I2 1 1 = I 1 1
theorem frX_rf {I : hI_} : frX I I := ⟨fun _ _ => rfl, rfl⟩
theorem frX_tr {I I2 I3 : hI_} (h1 : frX I I2) (h2 : frX I2 I3) : frX I I3 := ⟨fun a h => (h2.1 a h).trans (h1.1 a h), h2.2.trans h1.2⟩
theorem frX_1 {I I2 : hI_} (h : ∀ a, a ≠ 1 → I2 a = I a) (h1 : I2 1 1 = I 1 1) : frX I I2 := ⟨fun a ha => h a (by omega), h1⟩
theorem frX_17 {I I2 : hI_} (h : ∀ a, a ≠ 1 → a ≠ 17 → I2 a = I a) (h1 : I2 1 1 = I 1 1) : frX I I2 := ⟨fun a ha => h a (by omega) (by omega), h1⟩
theorem frX_up {I : hI_} {a i : Nat} {v : Int32} (h : 10 ≤ a ∧ a < 18) : frX I (upI I a i v) := by
  refine ⟨fun b hb => ?_, ?_⟩
  · funext j; rw [upI_at, if_neg (fun z => by omega)]
  · rw [upI_at, if_neg (fun z => by omega)]
theorem XB_fr {n : Nat} {B : Nat → Nat} {I I2 : hI_} (h : XB n B I) (hf : frX I I2) : XB n B I2 := ⟨by rw [hf.2]; exact h.1, h.2.1, by rw [hf.1 2 (by omega)]; exact h.2.2⟩
theorem XD_1 {D : Nat → Nat} {I I2 : hI_} (h : XD D I) (hf : ∀ a, a ≠ 1 → I2 a = I a) : XD D I2 := by
  unfold XD at h ⊢
  rw [hf 10 (by omega), hf 11 (by omega), hf 12 (by omega), hf 13 (by omega), hf 14 (by omega), hf 15 (by omega), hf 16 (by omega), hf 17 (by omega)]
  exact h
set_option maxHeartbeats 4000000 in
set_option maxRecDepth 20000 in
theorem wX4_fail {E : aE} {P : Int32 → hI_ → hJ_ → Prop} {I : hI_} {J : hJ_} {a0 : Int32} (k : P (0 : Int32) (upI (upI I 17 2 a0) 17 3 (I 1 4)) J) : CallI E mX4_fail [.ref 17, .int a0] SH I J P := by
  refine Call_of (L := [.ref 17, .int a0]) ok_X4_fail.1 rfl rfl ?_
  refine V_aload_n dX4_fail_0 rfl ?_
  refine V_iload_n dX4_fail_1 rfl ?_
  refine U_putI dX4_fail_2 fp_X4_30 s_17 rfl ?_
  refine V_aload_n dX4_fail_5 rfl ?_
  refine V_aload_n dX4_fail_6 rfl ?_
  refine U_getR dX4_fail_7 fl_X4_9 s_17 rfl ?_
  refine U_getIx (x := I 1 4) dX4_fail_10 fl_X4_60 s_1 rfl rfl ?_
  refine U_putI dX4_fail_13 fp_X4_33 s_17 rfl ?_
  refine V_iconst (v := (0 : Int32)) dX4_fail_16 rfl ?_
  exact V_iret dX4_fail_17 ⟨_, rfl, rfl⟩ rfl rfl ⟨_, _, _, rfl, rfl, k⟩
set_option maxHeartbeats 4000000 in
set_option maxRecDepth 20000 in
theorem wX4_isOf {E : aE} {P : Int32 → hI_ → hJ_ → Prop} {I : hI_} {J : hJ_} {a0 : Int32} (k : ((¬ (I 1 3) = (4 : Int32) → (((I 1 3) = a0 → P (1 : Int32) I J) ∧ (¬ ((I 1 3) = a0) → CallI E mX4_fail [.ref 17, .int (2 : Int32)] SH I J (fun x3 I4 J5 => P (b2i (¬ (x3 = (0 : Int32)))) I4 J5)))) ∧ ((I 1 3) = (4 : Int32) → CallI E mX4_fail [.ref 17, .int (1 : Int32)] SH I J (fun x2009 I2010 J2011 => (x2009 = 0 ∨ x2009 = 1) ∧ P x2009 I2010 J2011)))) : CallI E mX4_isOf [.ref 17, .int a0] SH I J P := by
  refine Call_of (L := [.ref 17, .int a0]) ok_X4_isOf.1 rfl rfl ?_
  refine V_aload_n dX4_isOf_0 rfl ?_
  refine U_getR dX4_isOf_1 fl_X4_9 s_17 rfl ?_
  refine U_getI dX4_isOf_4 fl_X4_49 s_1 rfl ?_
  refine V_iconst (v := (4 : Int32)) dX4_isOf_7 rfl ?_
  refine V_icmp_ne dX4_isOf_8 (fun c1 => ?_) (fun c1 => ?_)
  · have k := k.1 c1
    refine V_aload_n dX4_isOf_17 rfl ?_
    refine U_getR dX4_isOf_18 fl_X4_9 s_17 rfl ?_
    refine U_getI dX4_isOf_21 fl_X4_49 s_1 rfl ?_
    refine V_iload_n dX4_isOf_24 rfl ?_
    refine V_icmp_eq dX4_isOf_25 (fun c2 => ?_) (fun c2 => ?_)
    · have k := k.1 c2
      refine V_iconst (v := (1 : Int32)) dX4_isOf_36 rfl ?_
      refine V_goto dX4_isOf_37 ?_
      exact V_iret dX4_isOf_41 ⟨_, rfl, rfl⟩ rfl rfl ⟨_, _, _, rfl, rfl, k⟩
    · have k := k.2 c2
      refine V_aload_n dX4_isOf_28 rfl ?_
      refine V_iconst (v := (2 : Int32)) dX4_isOf_29 rfl ?_
      refine U_callV1 [.int (2 : Int32)] dX4_isOf_30 ov_X4_63 s_17 rfl ⟨rfl, rfl, rfl⟩ rfl rfl rfl (CallI_mono k (fun x3 I4 J5 k => ?_))
      have key6 : ∀ (y2007 : Int32), y2007 = (b2i (¬ (x3 = (0 : Int32)))) → V E mX4_isOf (kI SH P) 41 [.ref 17, .int a0] [.int y2007] (SH, I4, J5) (0, 0) := by
        intro y2007 ey2007
        subst ey2007
        exact V_iret dX4_isOf_41 ⟨_, rfl, b2i_nar⟩ rfl rfl ⟨_, _, _, rfl, rfl, k⟩
      refine V_if_eq dX4_isOf_33 (fun c2008 => ?_) (fun c2008 => ?_)
      · refine V_iconst (v := (0 : Int32)) dX4_isOf_40 rfl ?_
        exact key6 _ ((b2i_0.mpr (fun q => q c2008)).symm)
      · refine V_iconst (v := (1 : Int32)) dX4_isOf_36 rfl ?_
        refine V_goto dX4_isOf_37 ?_
        exact key6 _ ((b2i_1.mpr (c2008)).symm)
  · have k := k.2 c1
    refine V_aload_n dX4_isOf_11 rfl ?_
    refine V_iconst (v := (1 : Int32)) dX4_isOf_12 rfl ?_
    refine U_callV1 [.int (1 : Int32)] dX4_isOf_13 ov_X4_63 s_17 rfl ⟨rfl, rfl, rfl⟩ rfl rfl rfl (CallI_mono k (fun x2009 I2010 J2011 k => ?_))
    obtain ⟨hz2012, k⟩ := k
    exact V_iret dX4_isOf_16 ⟨_, rfl, z_nar hz2012⟩ rfl rfl ⟨_, _, _, rfl, rfl, k⟩
set_option maxHeartbeats 4000000 in
set_option maxRecDepth 20000 in
theorem wX4_takeNumber {E : aE} {P : Int32 → hI_ → hJ_ → Prop} {I : hI_} {J : hJ_} {a0 : Int32} {a1 : Int32} (k : CallV E mX8_advance [.ref 1] SH I J (fun I2 J3 => CallI E mX4_isOf [.ref 17, .int (2 : Int32)] SH I2 J3 (fun x4 I5 J6 => ((¬ x4 = (0 : Int32) → (((I5 1 5) < a0 → CallI E mX4_fail [.ref 17, .int (3 : Int32)] SH I5 J6 (fun x9 I10 J11 => P (b2i (¬ (x9 = (0 : Int32)))) I10 J11)) ∧ (¬ ((I5 1 5) < a0) → (((I5 1 5) ≤ a1 → P (1 : Int32) I5 J6) ∧ (¬ ((I5 1 5) ≤ a1) → CallI E mX4_fail [.ref 17, .int (3 : Int32)] SH I5 J6 (fun x2016 I2017 J2018 => P (b2i (¬ (x2016 = (0 : Int32)))) I2017 J2018)))))) ∧ (x4 = (0 : Int32) → P (0 : Int32) I5 J6))))) : CallI E mX4_takeNumber [.ref 17, .int a0, .int a1] SH I J P := by
  refine Call_of (L := [.ref 17, .int a0, .int a1]) ok_X4_takeNumber.1 rfl rfl ?_
  refine V_aload_n dX4_takeNumber_0 rfl ?_
  refine U_getR dX4_takeNumber_1 fl_X4_9 s_17 rfl ?_
  refine U_callV0 [] dX4_takeNumber_4 ov_X4_46 s_1 rfl ⟨rfl, rfl, rfl⟩ rfl rfl rfl (CallV_mono k (fun I2 J3 k => ?_))
  refine V_aload_n dX4_takeNumber_7 rfl ?_
  refine V_iconst (v := (2 : Int32)) dX4_takeNumber_8 rfl ?_
  refine U_callV1 [.int (2 : Int32)] dX4_takeNumber_9 ov_X4_52 s_17 rfl ⟨rfl, rfl, rfl⟩ rfl rfl rfl (CallI_mono k (fun x4 I5 J6 k => ?_))
  refine V_if_ne dX4_takeNumber_12 (fun c7 => ?_) (fun c7 => ?_)
  · have k := k.1 c7
    refine V_iload_n dX4_takeNumber_17 rfl ?_
    refine V_aload_n dX4_takeNumber_18 rfl ?_
    refine U_getR dX4_takeNumber_19 fl_X4_9 s_17 rfl ?_
    refine U_getI dX4_takeNumber_22 fl_X4_66 s_1 rfl ?_
    refine V_icmp_gt dX4_takeNumber_25 (fun c8 => ?_) (fun c8 => ?_)
    · have k := k.1 c8
      refine V_aload_n dX4_takeNumber_39 rfl ?_
      refine V_iconst (v := (3 : Int32)) dX4_takeNumber_40 rfl ?_
      refine U_callV1 [.int (3 : Int32)] dX4_takeNumber_41 ov_X4_63 s_17 rfl ⟨rfl, rfl, rfl⟩ rfl rfl rfl (CallI_mono k (fun x9 I10 J11 k => ?_))
      have key12 : ∀ (y2013 : Int32), y2013 = (b2i (¬ (x9 = (0 : Int32)))) → V E mX4_takeNumber (kI SH P) 52 [.ref 17, .int a0, .int a1] [.int y2013] (SH, I10, J11) (0, 0) := by
        intro y2013 ey2013
        subst ey2013
        exact V_iret dX4_takeNumber_52 ⟨_, rfl, b2i_nar⟩ rfl rfl ⟨_, _, _, rfl, rfl, k⟩
      refine V_if_eq dX4_takeNumber_44 (fun c2014 => ?_) (fun c2014 => ?_)
      · refine V_iconst (v := (0 : Int32)) dX4_takeNumber_51 rfl ?_
        exact key12 _ ((b2i_0.mpr (fun q => q c2014)).symm)
      · refine V_iconst (v := (1 : Int32)) dX4_takeNumber_47 rfl ?_
        refine V_goto dX4_takeNumber_48 ?_
        exact key12 _ ((b2i_1.mpr (c2014)).symm)
    · have k := k.2 c8
      refine V_aload_n dX4_takeNumber_28 rfl ?_
      refine U_getR dX4_takeNumber_29 fl_X4_9 s_17 rfl ?_
      refine U_getI dX4_takeNumber_32 fl_X4_66 s_1 rfl ?_
      refine V_iload_n dX4_takeNumber_35 rfl ?_
      refine V_icmp_le dX4_takeNumber_36 (fun c2015 => ?_) (fun c2015 => ?_)
      · have k := k.1 c2015
        refine V_iconst (v := (1 : Int32)) dX4_takeNumber_47 rfl ?_
        refine V_goto dX4_takeNumber_48 ?_
        exact V_iret dX4_takeNumber_52 ⟨_, rfl, rfl⟩ rfl rfl ⟨_, _, _, rfl, rfl, k⟩
      · have k := k.2 c2015
        refine V_aload_n dX4_takeNumber_39 rfl ?_
        refine V_iconst (v := (3 : Int32)) dX4_takeNumber_40 rfl ?_
        refine U_callV1 [.int (3 : Int32)] dX4_takeNumber_41 ov_X4_63 s_17 rfl ⟨rfl, rfl, rfl⟩ rfl rfl rfl (CallI_mono k (fun x2016 I2017 J2018 k => ?_))
        have key2019 : ∀ (y4020 : Int32), y4020 = (b2i (¬ (x2016 = (0 : Int32)))) → V E mX4_takeNumber (kI SH P) 52 [.ref 17, .int a0, .int a1] [.int y4020] (SH, I2017, J2018) (0, 0) := by
          intro y4020 ey4020
          subst ey4020
          exact V_iret dX4_takeNumber_52 ⟨_, rfl, b2i_nar⟩ rfl rfl ⟨_, _, _, rfl, rfl, k⟩
        refine V_if_eq dX4_takeNumber_44 (fun c4021 => ?_) (fun c4021 => ?_)
        · refine V_iconst (v := (0 : Int32)) dX4_takeNumber_51 rfl ?_
          exact key2019 _ ((b2i_0.mpr (fun q => q c4021)).symm)
        · refine V_iconst (v := (1 : Int32)) dX4_takeNumber_47 rfl ?_
          refine V_goto dX4_takeNumber_48 ?_
          exact key2019 _ ((b2i_1.mpr (c4021)).symm)
  · have k := k.2 c7
    refine V_iconst (v := (0 : Int32)) dX4_takeNumber_15 rfl ?_
    exact V_iret dX4_takeNumber_16 ⟨_, rfl, rfl⟩ rfl rfl ⟨_, _, _, rfl, rfl, k⟩
theorem le_nIm {v T : Nat} (hv : v < 1000000) (hT : T < 1000000) : (nI v ≤ nI T - 1) ↔ v < T := by
  rw [Int32.le_iff_toInt_le, nIm1 hT, nI_toInt (by omega)]; omega
theorem tX4_takeNumber {E : aE} {P : Int32 → hI_ → hJ_ → Prop} {n : Nat} {B : Nat → Nat} {I : hI_} {J : hJ_} {k lo hx : Nat} {x : Int32} (h : XB n B I) (h2 : I 1 2 = nI k) (hk : k ≤ n) (hxe : x = nI hx - 1) (hlo : lo < 100000) (hhx : hx < 100000) (k0 : cN_ n B k lo hx = 0 → ∀ I2, (∀ a, a ≠ 1 → I2 a = I a) → I2 1 1 = I 1 1 → XT n B k I2 → P 1 I2 J) (k1 : cN_ n B k lo hx ≠ 0 → ∀ I2, (∀ a, a ≠ 1 → a ≠ 17 → I2 a = I a) → I2 1 1 = I 1 1 → I2 17 2 = nI (cN_ n B k lo hx) → I2 17 3 = nI (tS n B k) → P 0 I2 J) : CallI E mX4_takeNumber [.ref 17, .int (nI lo), .int x] SH I J P := by
  have k4 := tK_4 n B k
  have vb := tV_b (n := n) (B := B) (k := k)
  refine wX4_takeNumber (tX8_advance h h2 hk (fun I2 q1 q2 hT => ?_))
  have bad : ∀ c : Nat, cN_ n B k lo hx = c → c ≠ 0 → P 0 (upI (upI I2 17 2 (nI c)) 17 3 (I2 1 4)) J := fun c e hc => by
    refine k1 (by omega) _ (fun a a1 a2 => ?_) ?_ ?_ ?_
    · rw [← q1 a a1]; funext j; rw [upI_at, if_neg (fun z => a2 z.1), upI_at, if_neg (fun z => a2 z.1)]
    · rw [upI_at, if_neg (by omega), upI_at, if_neg (by omega)]; exact q2
    · rw [upI_at, if_neg (by omega), upI_at, if_pos ⟨rfl, rfl⟩, e]
    · rw [upI_at, if_pos ⟨rfl, rfl⟩]; exact hT.2.2.1
  have e4 : (nI (tK n B k) = 4) ↔ tK n B k = 4 := nI_eqI (b := 4) (by omega) (by omega)
  have e2 : (nI (tK n B k) = 2) ↔ tK n B k = 2 := nI_eqI (b := 2) (by omega) (by omega)
  refine wX4_isOf ?_
  rw [hT.2.1]
  refine ⟨fun z => ?_, fun z => wX4_fail ⟨Or.inl rfl, fun y => absurd rfl y, fun _ => bad 1 ?_ (by omega)⟩⟩
  · have z : ¬ tK n B k = 4 := fun y => z (e4.mpr y)
    refine ⟨fun z2 => ?_, fun z2 => wX4_fail ⟨fun y => absurd rfl y, fun _ => bad 2 ?_ (by omega)⟩⟩
    · have z2 := e2.mp z2
      refine ⟨fun _ => ?_, fun y => absurd y (by decide)⟩
      rw [hT.2.2.2, hxe, nI_ltJ (by omega) (by omega), le_nIm (by omega) (by omega)]
      have c3 : ¬ (lo ≤ tV n B k ∧ tV n B k < hx) → cN_ n B k lo hx = 3 := fun y => by unfold cN_; rw [if_neg z, if_pos z2, if_neg y]
      refine ⟨fun y => wX4_fail (bad 3 (c3 (by omega)) (by omega)), fun y => ⟨fun w => k0 (cN0.mpr ⟨z2, by omega, w⟩) I2 q1 q2 hT, fun w => wX4_fail (bad 3 (c3 (by omega)) (by omega))⟩⟩
    · have z2 : ¬ tK n B k = 2 := fun y => z2 (e2.mpr y)
      unfold cN_; rw [if_neg z, if_neg z2]
  · unfold cN_; rw [if_pos (e4.mp z)]
/-- what is asked behind a line -/
def LXc (I : hI_) (J : hJ_) (r : Nat × Nat × Nat × (Nat → Nat)) (P : Int32 → hI_ → hJ_ → Prop) : Prop := ∀ x I2, frX I I2 → (r.1 = 0 → x = 1 ∧ I2 1 2 = nI r.2.2.1 ∧ XD r.2.2.2 I2) → (r.1 ≠ 0 → x = 0 ∧ I2 17 2 = nI r.1 ∧ I2 17 3 = nI r.2.1) → P x I2 J
theorem LB {I : hI_} {J : hJ_} {r : Nat × Nat × Nat × (Nat → Nat)} {P : Int32 → hI_ → hJ_ → Prop} (k : LXc I J r P) {c s : Nat} {D : Nat → Nat} (hr : r = (c, s, 0, D)) (hc : c ≠ 0) {I2 : hI_} (hf : frX I I2) (h2 : I2 17 2 = nI c) (h3 : I2 17 3 = nI s) : P 0 I2 J := k 0 I2 hf (by rw [hr]; exact fun z => absurd z hc) (by rw [hr]; exact fun _ => ⟨rfl, h2, h3⟩)
theorem LG {I : hI_} {J : hJ_} {r : Nat × Nat × Nat × (Nat → Nat)} {P : Int32 → hI_ → hJ_ → Prop} (k : LXc I J r P) {k' : Nat} {D : Nat → Nat} (hr : r = (0, 0, k', D)) {I2 : hI_} (hf : frX I I2) (h2 : I2 1 2 = nI k') (h3 : XD D I2) : P 1 I2 J := k 1 I2 hf (by rw [hr]; exact fun _ => ⟨rfl, h2, h3⟩) (by rw [hr]; exact fun z => absurd rfl z)
theorem fail_st {n : Nat} {B : Nat → Nat} {k : Nat} {I I2 : hI_} {c : Nat} (hf : frX I I2) (hT : XT n B k I2) : frX I (upI (upI I2 17 2 (nI c)) 17 3 (I2 1 4)) ∧ (upI (upI I2 17 2 (nI c)) 17 3 (I2 1 4)) 17 2 = nI c ∧ (upI (upI I2 17 2 (nI c)) 17 3 (I2 1 4)) 17 3 = nI (tS n B k) := by
  refine ⟨frX_tr hf (frX_tr (frX_up (by omega)) (frX_up (by omega))), ?_, ?_⟩
  · rw [upI_at, if_neg (by omega)]; exact upI_same
  · rw [upI_at, if_pos ⟨rfl, rfl⟩]; exact hT.2.2.1
set_option maxHeartbeats 4000000 in
set_option maxRecDepth 20000 in
theorem wX4_takePlace {E : aE} {P : Int32 → hI_ → hJ_ → Prop} {I : hI_} {J : hJ_}  (k : (((I 10 6) < (5 : Int32) → CallI E mX4_takeNumber [.ref 17, .int (1 : Int32), .int (999 : Int32)] SH I J (fun x2 I3 J4 => ((¬ x2 = (0 : Int32) → (vp_in (I3 10 6) 5) ∧ P (1 : Int32) (upI (upI I3 11 ((I3 10 6).toNatClampNeg) (I3 1 5)) 10 6 ((I3 10 6) + (1 : Int32))) J4) ∧ (x2 = (0 : Int32) → P (0 : Int32) I3 J4)))) ∧ (¬ ((I 10 6) < (5 : Int32)) → CallI E mX4_fail [.ref 17, .int (5 : Int32)] SH I J (fun x7 I8 J9 => (x7 = 0 ∨ x7 = 1) ∧ P x7 I8 J9)))) : CallI E mX4_takePlace [.ref 17] SH I J P := by
  refine Call_of (L := [.ref 17]) ok_X4_takePlace.1 rfl rfl ?_
  refine V_aload_n dX4_takePlace_0 rfl ?_
  refine U_getR dX4_takePlace_1 fl_X4_15 s_17 rfl ?_
  refine U_getI dX4_takePlace_4 fl_X4_103 s_10 rfl ?_
  refine V_iconst (v := (5 : Int32)) dX4_takePlace_7 rfl ?_
  refine V_icmp_lt dX4_takePlace_8 (fun c1 => ?_) (fun c1 => ?_)
  · have k := k.1 c1
    refine V_aload_n dX4_takePlace_17 rfl ?_
    refine V_iconst (v := (1 : Int32)) dX4_takePlace_18 rfl ?_
    refine V_sipush (v := (999 : Int32)) dX4_takePlace_19 rfl ?_
    refine U_callV1 [.int (1 : Int32), .int (999 : Int32)] dX4_takePlace_22 ov_X4_106 s_17 rfl ⟨rfl, rfl, rfl⟩ rfl rfl rfl (CallI_mono k (fun x2 I3 J4 k => ?_))
    refine V_if_ne dX4_takePlace_25 (fun c5 => ?_) (fun c5 => ?_)
    · have k := k.1 c5
      refine V_aload_n dX4_takePlace_30 rfl ?_
      refine U_getR dX4_takePlace_31 fl_X4_15 s_17 rfl ?_
      refine U_getR dX4_takePlace_34 fl_X4_110 s_10 rfl ?_
      refine V_aload_n dX4_takePlace_37 rfl ?_
      refine U_getR dX4_takePlace_38 fl_X4_15 s_17 rfl ?_
      refine U_getI dX4_takePlace_41 fl_X4_103 s_10 rfl ?_
      refine V_aload_n dX4_takePlace_44 rfl ?_
      refine U_getR dX4_takePlace_45 fl_X4_9 s_17 rfl ?_
      refine U_getI dX4_takePlace_48 fl_X4_66 s_1 rfl ?_
      obtain ⟨hb6, k⟩ := k
      refine U_iast dX4_takePlace_51 s_11 hb6 ?_
      refine V_aload_n dX4_takePlace_52 rfl ?_
      refine U_getR dX4_takePlace_53 fl_X4_15 s_17 rfl ?_
      refine V_dupR dX4_takePlace_56 ?_
      refine U_getIx (x := I3 10 6) dX4_takePlace_57 fl_X4_103 s_10 rfl rfl ?_
      refine V_iconst (v := (1 : Int32)) dX4_takePlace_60 rfl ?_
      refine V_iadd dX4_takePlace_61 ?_
      refine U_putI dX4_takePlace_62 fp_X4_103 s_10 rfl ?_
      refine V_iconst (v := (1 : Int32)) dX4_takePlace_65 rfl ?_
      exact V_iret dX4_takePlace_66 ⟨_, rfl, rfl⟩ rfl rfl ⟨_, _, _, rfl, rfl, k⟩
    · have k := k.2 c5
      refine V_iconst (v := (0 : Int32)) dX4_takePlace_28 rfl ?_
      exact V_iret dX4_takePlace_29 ⟨_, rfl, rfl⟩ rfl rfl ⟨_, _, _, rfl, rfl, k⟩
  · have k := k.2 c1
    refine V_aload_n dX4_takePlace_11 rfl ?_
    refine V_iconst (v := (5 : Int32)) dX4_takePlace_12 rfl ?_
    refine U_callV1 [.int (5 : Int32)] dX4_takePlace_13 ov_X4_63 s_17 rfl ⟨rfl, rfl, rfl⟩ rfl rfl rfl (CallI_mono k (fun x7 I8 J9 k => ?_))
    obtain ⟨hz10, k⟩ := k
    exact V_iret dX4_takePlace_16 ⟨_, rfl, z_nar hz10⟩ rfl rfl ⟨_, _, _, rfl, rfl, k⟩
theorem tX4_takePlace {E : aE} {P : Int32 → hI_ → hJ_ → Prop} {n : Nat} {B : Nat → Nat} {I : hI_} {J : hJ_} {k0 : Nat} {D : Nat → Nat} (h : XB n B I) (hk : k0 ≤ n) (hT : XT n B k0 I) (hD : XD D I) (ok : DOK D) (kk : LXc I J (lnPlace n B k0 (tE n B k0) D) P) : CallI E mX4_takePlace [.ref 17] SH I J P := by
  have o1 := ok.1
  have he := tE_b (B := B) hk
  refine wX4_takePlace ?_
  rw [hD.1.1]
  have l5 : (nI (D 0) < 5) ↔ D 0 < 5 := nI_ltJ (b := 5) (by omega) (by omega)
  rw [l5]
  refine ⟨fun z => tX4_takeNumber (lo := 1) (hx := 1000) h hT.1 he.2.1 rfl (by omega) (by omega) (fun c0 I2 q1 q2 hT2 => ⟨fun _ => ?_, fun y => absurd y (by decide)⟩) (fun c1 I2 q1 q2 q3 q4 => ⟨fun y => absurd rfl y, fun _ => LB kk (by unfold lnPlace; rw [if_neg (by omega), if_neg c1]) c1 (frX_17 q1 q2) q3 q4⟩), fun z => ?_⟩
  · have hD2 := XD_1 hD q1
    rw [hD2.1.1, nI_clamp (by omega), nI_1, hT2.2.2.2]
    refine ⟨vp_in_nI (by omega) (by omega), LG kk (by unfold lnPlace; rw [if_neg (by omega), if_pos c0]) (frX_tr (frX_1 q1 q2) (frX_tr (frX_up (by omega)) (frX_up (by omega)))) ?_ ?_⟩
    · rw [upI_at, if_neg (by omega), upI_at, if_neg (by omega)]; exact hT2.1
    · obtain ⟨⟨a1, a2, a3, a4, a5⟩, b1, c1, d1, e1, f1⟩ := hD2
      generalize hF : upI (upI I2 11 (D 0) (nI (tV n B (tE n B k0)))) 10 6 (nI (D 0 + 1)) = F
      have Fo : ∀ a, a ≠ 10 → a ≠ 11 → F a = I2 a := fun a x1 x2 => by funext j; rw [← hF, upI_at, if_neg (fun z => x1 z.1), upI_at, if_neg (fun z => x2 z.1)]
      have F10 : ∀ j, j ≠ 6 → F 10 j = I2 10 j := fun j hj => by rw [← hF, upI_at, if_neg (fun z => hj z.2), upI_at, if_neg (by omega)]
      have o : ∀ j, j ≠ 0 → j ≠ 20 + D 0 → upN (upN D (20 + D 0) (tV n B (tE n B k0))) 0 (D 0 + 1) j = D j := fun j h1 h2 => by rw [upN_o h1, upN_o h2]
      have o0 : upN (upN D (20 + D 0) (tV n B (tE n B k0))) 0 (D 0 + 1) 0 = D 0 + 1 := upN_e
      refine ⟨⟨?_, ?_, ?_, ?_, ?_⟩, ?_, ?_, fun i hi => ?_, fun a b ha hb => ?_, fun s hs => ?_⟩
      · rw [o0, ← hF]; exact upI_same
      · rw [o 1 (by omega) (by omega), F10 7 (by omega)]; exact a2
      · rw [o 2 (by omega) (by omega), F10 8 (by omega)]; exact a3
      · rw [o 6 (by omega) (by omega), F10 9 (by omega)]; exact a4
      · rw [o 7 (by omega) (by omega), F10 10 (by omega)]; exact a5
      · rw [o 8 (by omega) (by omega), o 9 (by omega) (by omega), o 10 (by omega) (by omega), Fo 17 (by omega) (by omega)]; exact b1
      · rw [o 3 (by omega) (by omega), o 4 (by omega) (by omega), o 5 (by omega) (by omega), Fo 16 (by omega) (by omega)]; exact c1
      · rw [o0] at hi
        rw [← hF, upI_at, if_neg (by omega), upI_at]
        by_cases w : i = D 0
        · rw [if_pos ⟨rfl, w⟩, w, upN_o (by omega), upN_e]
        · rw [if_neg (fun z => w z.2), o _ (by omega) (by omega)]; exact d1 i (by omega)
      · rw [o _ (by omega) (by omega), Fo 12 (by omega) (by omega)]; exact e1 a b ha hb
      · rw [o 2 (by omega) (by omega)] at hs
        rw [o _ (by omega) (by omega), o _ (by omega) (by omega), o _ (by omega) (by omega), o _ (by omega) (by omega), Fo 13 (by omega) (by omega), Fo 14 (by omega) (by omega), Fo 15 (by omega) (by omega)]
        exact f1 s hs
  · have f := fail_st (c := 5) (frX_rf (I := I)) hT
    exact wX4_fail ⟨Or.inl rfl, LB kk (by unfold lnPlace; rw [if_pos (by omega)]) (by omega) f.1 f.2.1 f.2.2⟩
set_option maxHeartbeats 4000000 in
set_option maxRecDepth 20000 in
theorem wX4_takeWay {E : aE} {P : Int32 → hI_ → hJ_ → Prop} {I : hI_} {J : hJ_}  (k : CallI E mX4_takeNumber [.ref 17, .int (0 : Int32), .int ((I 10 6) - (1 : Int32))] SH I J (fun x1 I2 J3 => ((¬ x1 = (0 : Int32) → CallI E mX4_takeNumber [.ref 17, .int (0 : Int32), .int ((I2 10 6) - (1 : Int32))] SH I2 J3 (fun x5 I6 J7 => ((¬ x5 = (0 : Int32) → ((¬ (I2 1 5) = (I6 1 5) → (vp_in (pr (I2 1 5) (I6 1 5)) 25) ∧ (((I6 12 (pr (I2 1 5) (I6 1 5)).toNatClampNeg) ≤ (0 : Int32) → CallI E mX4_takeNumber [.ref 17, .int (1 : Int32), .int (99 : Int32)] SH I6 J7 (fun x12 I13 J14 => ((¬ x12 = (0 : Int32) → (vp_in (pr (I2 1 5) (I6 1 5)) 25) ∧ P (1 : Int32) (upI (upI I13 12 ((pr (I2 1 5) (I6 1 5)).toNatClampNeg) (I13 1 5)) 10 7 ((I13 10 7) + (1 : Int32))) J14) ∧ (x12 = (0 : Int32) → P (0 : Int32) I13 J14)))) ∧ (¬ ((I6 12 (pr (I2 1 5) (I6 1 5)).toNatClampNeg) ≤ (0 : Int32)) → CallI E mX4_fail [.ref 17, .int (4 : Int32)] SH I6 J7 (fun x17 I18 J19 => (x17 = 0 ∨ x17 = 1) ∧ P x17 I18 J19)))) ∧ ((I2 1 5) = (I6 1 5) → CallI E mX4_fail [.ref 17, .int (3 : Int32)] SH I6 J7 (fun x21 I22 J23 => (x21 = 0 ∨ x21 = 1) ∧ P x21 I22 J23)))) ∧ (x5 = (0 : Int32) → P (0 : Int32) I6 J7)))) ∧ (x1 = (0 : Int32) → P (0 : Int32) I2 J3)))) : CallI E mX4_takeWay [.ref 17] SH I J P := by
  refine Call_of (L := [.ref 17, .retAddr 0, .retAddr 0, .retAddr 0]) ok_X4_takeWay.1 rfl rfl ?_
  refine V_aload_n dX4_takeWay_0 rfl ?_
  refine V_iconst (v := (0 : Int32)) dX4_takeWay_1 rfl ?_
  refine V_aload_n dX4_takeWay_2 rfl ?_
  refine U_getR dX4_takeWay_3 fl_X4_15 s_17 rfl ?_
  refine U_getI dX4_takeWay_6 fl_X4_103 s_10 rfl ?_
  refine V_iconst (v := (1 : Int32)) dX4_takeWay_9 rfl ?_
  refine V_isub dX4_takeWay_10 ?_
  refine U_callV1 [.int (0 : Int32), .int ((I 10 6) - (1 : Int32))] dX4_takeWay_11 ov_X4_106 s_17 rfl ⟨rfl, rfl, rfl⟩ rfl rfl rfl (CallI_mono k (fun x1 I2 J3 k => ?_))
  refine V_if_ne dX4_takeWay_14 (fun c4 => ?_) (fun c4 => ?_)
  · have k := k.1 c4
    refine V_aload_n dX4_takeWay_19 rfl ?_
    refine U_getR dX4_takeWay_20 fl_X4_9 s_17 rfl ?_
    refine U_getI dX4_takeWay_23 fl_X4_66 s_1 rfl ?_
    refine U_istore_n (L2 := [.ref 17, .int (I2 1 5), .retAddr 0, .retAddr 0]) dX4_takeWay_26 (by decide) rfl ?_
    refine V_aload_n dX4_takeWay_27 rfl ?_
    refine V_iconst (v := (0 : Int32)) dX4_takeWay_28 rfl ?_
    refine V_aload_n dX4_takeWay_29 rfl ?_
    refine U_getR dX4_takeWay_30 fl_X4_15 s_17 rfl ?_
    refine U_getI dX4_takeWay_33 fl_X4_103 s_10 rfl ?_
    refine V_iconst (v := (1 : Int32)) dX4_takeWay_36 rfl ?_
    refine V_isub dX4_takeWay_37 ?_
    refine U_callV1 [.int (0 : Int32), .int ((I2 10 6) - (1 : Int32))] dX4_takeWay_38 ov_X4_106 s_17 rfl ⟨rfl, rfl, rfl⟩ rfl rfl rfl (CallI_mono k (fun x5 I6 J7 k => ?_))
    refine V_if_ne dX4_takeWay_41 (fun c8 => ?_) (fun c8 => ?_)
    · have k := k.1 c8
      refine V_aload_n dX4_takeWay_46 rfl ?_
      refine U_getR dX4_takeWay_47 fl_X4_9 s_17 rfl ?_
      refine U_getI dX4_takeWay_50 fl_X4_66 s_1 rfl ?_
      refine U_istore_n (L2 := [.ref 17, .int (I2 1 5), .int (I6 1 5), .retAddr 0]) dX4_takeWay_53 (by decide) rfl ?_
      refine V_iload_n dX4_takeWay_54 rfl ?_
      refine V_iload_n dX4_takeWay_55 rfl ?_
      refine V_icmp_ne dX4_takeWay_56 (fun c9 => ?_) (fun c9 => ?_)
      · have k := k.1 c9
        refine V_iload_n dX4_takeWay_65 rfl ?_
        refine V_iload_n dX4_takeWay_66 rfl ?_
        refine U_callS1 [.int (I2 1 5), .int (I6 1 5)] dX4_takeWay_67 os_X4_114 ⟨rfl, rfl, rfl⟩ rfl rfl rfl (tX3_pair ?_)
        refine U_istore_n (L2 := [.ref 17, .int (I2 1 5), .int (I6 1 5), .int (pr (I2 1 5) (I6 1 5))]) dX4_takeWay_70 (by decide) rfl ?_
        refine V_aload_n dX4_takeWay_71 rfl ?_
        refine U_getR dX4_takeWay_72 fl_X4_15 s_17 rfl ?_
        refine U_getR dX4_takeWay_75 fl_X4_118 s_10 rfl ?_
        refine V_iload_n dX4_takeWay_78 rfl ?_
        obtain ⟨hb10, k⟩ := k
        refine U_iald dX4_takeWay_79 s_12 hb10 ?_
        refine V_if_le dX4_takeWay_80 (fun c11 => ?_) (fun c11 => ?_)
        · have k := k.1 c11
          refine V_aload_n dX4_takeWay_89 rfl ?_
          refine V_iconst (v := (1 : Int32)) dX4_takeWay_90 rfl ?_
          refine V_bipush (v := (99 : Int32)) dX4_takeWay_91 rfl ?_
          refine U_callV1 [.int (1 : Int32), .int (99 : Int32)] dX4_takeWay_93 ov_X4_106 s_17 rfl ⟨rfl, rfl, rfl⟩ rfl rfl rfl (CallI_mono k (fun x12 I13 J14 k => ?_))
          refine V_if_ne dX4_takeWay_96 (fun c15 => ?_) (fun c15 => ?_)
          · have k := k.1 c15
            refine V_aload_n dX4_takeWay_101 rfl ?_
            refine U_getR dX4_takeWay_102 fl_X4_15 s_17 rfl ?_
            refine U_getR dX4_takeWay_105 fl_X4_118 s_10 rfl ?_
            refine V_iload_n dX4_takeWay_108 rfl ?_
            refine V_aload_n dX4_takeWay_109 rfl ?_
            refine U_getR dX4_takeWay_110 fl_X4_9 s_17 rfl ?_
            refine U_getI dX4_takeWay_113 fl_X4_66 s_1 rfl ?_
            obtain ⟨hb16, k⟩ := k
            refine U_iast dX4_takeWay_116 s_12 hb16 ?_
            refine V_aload_n dX4_takeWay_117 rfl ?_
            refine U_getR dX4_takeWay_118 fl_X4_15 s_17 rfl ?_
            refine V_dupR dX4_takeWay_121 ?_
            refine U_getIx (x := I13 10 7) dX4_takeWay_122 fl_X4_121 s_10 rfl rfl ?_
            refine V_iconst (v := (1 : Int32)) dX4_takeWay_125 rfl ?_
            refine V_iadd dX4_takeWay_126 ?_
            refine U_putI dX4_takeWay_127 fp_X4_121 s_10 rfl ?_
            refine V_iconst (v := (1 : Int32)) dX4_takeWay_130 rfl ?_
            exact V_iret dX4_takeWay_131 ⟨_, rfl, rfl⟩ rfl rfl ⟨_, _, _, rfl, rfl, k⟩
          · have k := k.2 c15
            refine V_iconst (v := (0 : Int32)) dX4_takeWay_99 rfl ?_
            exact V_iret dX4_takeWay_100 ⟨_, rfl, rfl⟩ rfl rfl ⟨_, _, _, rfl, rfl, k⟩
        · have k := k.2 c11
          refine V_aload_n dX4_takeWay_83 rfl ?_
          refine V_iconst (v := (4 : Int32)) dX4_takeWay_84 rfl ?_
          refine U_callV1 [.int (4 : Int32)] dX4_takeWay_85 ov_X4_63 s_17 rfl ⟨rfl, rfl, rfl⟩ rfl rfl rfl (CallI_mono k (fun x17 I18 J19 k => ?_))
          obtain ⟨hz20, k⟩ := k
          exact V_iret dX4_takeWay_88 ⟨_, rfl, z_nar hz20⟩ rfl rfl ⟨_, _, _, rfl, rfl, k⟩
      · have k := k.2 c9
        refine V_aload_n dX4_takeWay_59 rfl ?_
        refine V_iconst (v := (3 : Int32)) dX4_takeWay_60 rfl ?_
        refine U_callV1 [.int (3 : Int32)] dX4_takeWay_61 ov_X4_63 s_17 rfl ⟨rfl, rfl, rfl⟩ rfl rfl rfl (CallI_mono k (fun x21 I22 J23 k => ?_))
        obtain ⟨hz24, k⟩ := k
        exact V_iret dX4_takeWay_64 ⟨_, rfl, z_nar hz24⟩ rfl rfl ⟨_, _, _, rfl, rfl, k⟩
    · have k := k.2 c8
      refine V_iconst (v := (0 : Int32)) dX4_takeWay_44 rfl ?_
      exact V_iret dX4_takeWay_45 ⟨_, rfl, rfl⟩ rfl rfl ⟨_, _, _, rfl, rfl, k⟩
  · have k := k.2 c4
    refine V_iconst (v := (0 : Int32)) dX4_takeWay_17 rfl ?_
    exact V_iret dX4_takeWay_18 ⟨_, rfl, rfl⟩ rfl rfl ⟨_, _, _, rfl, rfl, k⟩
theorem prN_25 {a b : Nat} (ha : a < 5) (hb : b < 5) : prN a b < 25 := by unfold prN; split <;> omega
theorem prN_ij2 {a b c d : Nat} (ha : a < 5) (hb : b < 5) (hc : c < 5) (hd : d < 5) (h : prN a b = prN c d) : (a = c ∧ b = d) ∨ (a = d ∧ b = c) := by
  unfold prN at h
  split at h <;> split at h <;> omega
theorem tX4_takeWay {E : aE} {P : Int32 → hI_ → hJ_ → Prop} {n : Nat} {B : Nat → Nat} {I : hI_} {J : hJ_} {k0 : Nat} {D : Nat → Nat} (h : XB n B I) (hk : k0 ≤ n) (hT : XT n B k0 I) (hD : XD D I) (ok : DOK D) (kk : LXc I J (lnWay n B (tE n B k0) D) P) : CallI E mX4_takeWay [.ref 17] SH I J P := by
  have o1 := ok.1
  have he := (tE_b (B := B) hk).2.1
  have he2 := (tE_b (B := B) he).2.1
  have he3 := (tE_b (B := B) he2).2.1
  unfold lnWay at kk
  generalize hk1 : tE n B k0 = k1 at *
  generalize hk2 : tE n B k1 = k2 at *
  generalize hk3 : tE n B k2 = k3 at *
  refine wX4_takeWay ?_
  rw [hD.1.1]
  refine tX4_takeNumber (lo := 0) (hx := D 0) h (by rw [hT.1, hk1]) he rfl (by omega) (by omega) (fun c1 I2 q1 q2 hT2 => ⟨fun _ => ?_, fun y => absurd y (by decide)⟩) (fun c1 I2 q1 q2 q3 q4 => ⟨fun y => absurd rfl y, fun _ => LB kk (by unfold lnWay3; rw [if_neg c1]) c1 (frX_17 q1 q2) q3 q4⟩)
  have hD2 := XD_1 hD q1
  rw [hD2.1.1]
  refine tX4_takeNumber (lo := 0) (hx := D 0) (XB_fr h (frX_1 q1 q2)) (by rw [hT2.1, hk2]) he2 rfl (by omega) (by omega) (fun c2 I3 r1 r2 hT3 => ⟨fun _ => ?_, fun y => absurd y (by decide)⟩) (fun c2 I3 r1 r2 r3 r4 => ⟨fun y => absurd rfl y, fun _ => LB kk (by unfold lnWay3; rw [if_pos c1, if_neg c2]) c2 (frX_tr (frX_1 q1 q2) (frX_17 r1 r2)) r3 r4⟩)
  have hD3 := XD_1 hD2 r1
  have d1 := cN0.mp c1
  have d2 := cN0.mp c2
  have va : tV n B k1 < 5 := by omega
  have vb : tV n B k2 < 5 := by omega
  have fr3 := frX_tr (frX_1 q1 q2) (frX_1 r1 r2)
  have wab := ok.2.2.2.1 _ _ va vb
  rw [hT2.2.2.2, hT3.2.2.2, pr_nI va vb, nI_clamp (by have := prN_25 va vb; omega), hD3.2.2.2.2.1 _ _ va vb]
  have vp : vp_in (nI (prN (tV n B k1) (tV n B k2))) 25 := vp_in_nI (prN_25 va vb) (by omega)
  refine ⟨fun z => ⟨vp, fun y => ?_, fun y => ?_⟩, fun z => ?_⟩
  · have z : ¬ tV n B k1 = tV n B k2 := fun w => z (by rw [w])
    have y : ¬ 0 < D (40 + 5 * tV n B k1 + tV n B k2) := by
      have := (nI_leJ (b := 0) (by omega) (by omega)).mp y
      omega
    refine tX4_takeNumber (lo := 1) (hx := 100) (XB_fr h fr3) (by rw [hT3.1, hk3]) he3 rfl (by omega) (by omega) (fun c3 I4 s1 s2 hT4 => ⟨fun _ => ⟨vp, ?_⟩, fun y => absurd y (by decide)⟩) (fun c3 I4 s1 s2 s3 s4 => ⟨fun y => absurd rfl y, fun _ => LB kk (by unfold lnWay3; rw [if_pos c1, if_pos c2, if_neg z, if_neg y, if_neg c3]) c3 (frX_tr fr3 (frX_17 s1 s2)) s3 s4⟩)
    have hD4 := XD_1 hD3 s1
    rw [hT4.2.2.2, hD4.1.2.1, nI_1]
    refine LG kk (by unfold lnWay3; rw [if_pos c1, if_pos c2, if_neg z, if_neg y, if_pos c3]) (frX_tr (frX_tr fr3 (frX_1 s1 s2)) (frX_tr (frX_up (by omega)) (frX_up (by omega)))) ?_ ?_
    · rw [upI_at, if_neg (by omega), upI_at, if_neg (by omega)]; exact hT4.1
    · obtain ⟨⟨a1, a2, a3, a4, a5⟩, b1, cc1, dd1, e1, f1⟩ := hD4
      unfold dWay
      generalize tV n B k1 = a at *
      generalize tV n B k2 = b at *
      generalize tV n B k3 = v at *
      generalize hF : upI (upI I4 12 (prN a b) (nI v)) 10 7 (nI (D 1 + 1)) = F
      have Fo : ∀ a, a ≠ 10 → a ≠ 12 → F a = I4 a := fun a x1 x2 => by funext j; rw [← hF, upI_at, if_neg (fun z => x1 z.1), upI_at, if_neg (fun z => x2 z.1)]
      have F10 : ∀ j, j ≠ 7 → F 10 j = I4 10 j := fun j hj => by rw [← hF, upI_at, if_neg (fun z => hj z.2), upI_at, if_neg (by omega)]
      have o : ∀ j, j ≠ 1 → (j < 40 ∨ 65 ≤ j) → upN (upN (upN D (40 + 5 * a + b) v) (40 + 5 * b + a) v) 1 (D 1 + 1) j = D j := fun j h1 h2 => by rw [upN_o h1, upN_o (by omega), upN_o (by omega)]
      have w : ∀ x y, x < 5 → y < 5 → upN (upN (upN D (40 + 5 * a + b) v) (40 + 5 * b + a) v) 1 (D 1 + 1) (40 + 5 * x + y) = if (x = a ∧ y = b) ∨ (x = b ∧ y = a) then v else D (40 + 5 * x + y) := fun x y hx hy => by
        rw [upN_o (by omega)]
        by_cases q1 : x = b ∧ y = a
        · rw [if_pos (Or.inr q1), q1.1, q1.2, upN_e]
        · rw [upN_o (by omega)]
          by_cases q2 : x = a ∧ y = b
          · rw [if_pos (Or.inl q2), q2.1, q2.2, upN_e]
          · rw [if_neg (fun y => y.elim q2 q1), upN_o (by omega)]
      refine ⟨⟨?_, ?_, ?_, ?_, ?_⟩, ?_, ?_, fun i hi => ?_, fun x y hx hy => ?_, fun s hs => ?_⟩
      · rw [o 0 (by omega) (by omega), F10 6 (by omega)]; exact a1
      · rw [upN_e, ← hF]; exact upI_same
      · rw [o 2 (by omega) (by omega), F10 8 (by omega)]; exact a3
      · rw [o 6 (by omega) (by omega), F10 9 (by omega)]; exact a4
      · rw [o 7 (by omega) (by omega), F10 10 (by omega)]; exact a5
      · rw [o 8 (by omega) (by omega), o 9 (by omega) (by omega), o 10 (by omega) (by omega), Fo 17 (by omega) (by omega)]; exact b1
      · rw [o 3 (by omega) (by omega), o 4 (by omega) (by omega), o 5 (by omega) (by omega), Fo 16 (by omega) (by omega)]; exact cc1
      · rw [o 0 (by omega) (by omega)] at hi
        rw [o _ (by omega) (by omega), Fo 11 (by omega) (by omega)]; exact dd1 i hi
      · rw [w x y hx hy, ← hF, upI_at, if_neg (by omega), upI_at]
        by_cases g : (x = a ∧ y = b) ∨ (x = b ∧ y = a)
        · rw [if_pos g, if_pos]
          refine ⟨rfl, ?_⟩
          rcases g with g | g
          · rw [g.1, g.2]
          · rw [g.1, g.2]; exact prN_sym b a
        · rw [if_neg g, if_neg]
          · exact e1 x y hx hy
          · exact fun u => g (prN_ij2 hx hy va vb u.2)
      · rw [o 2 (by omega) (by omega)] at hs
        rw [o _ (by omega) (by omega), o _ (by omega) (by omega), o _ (by omega) (by omega), o _ (by omega) (by omega), Fo 13 (by omega) (by omega), Fo 14 (by omega) (by omega), Fo 15 (by omega) (by omega)]
        exact f1 s hs
  · have z : ¬ tV n B k1 = tV n B k2 := fun w => z (by rw [w])
    have y : 0 < D (40 + 5 * tV n B k1 + tV n B k2) := by
      rcases Nat.eq_zero_or_pos (D (40 + 5 * tV n B k1 + tV n B k2)) with w | w
      · exact absurd (by rw [w]; exact Int32.le_refl _) y
      · exact w
    have f := fail_st (c := 4) fr3 hT3
    exact wX4_fail ⟨Or.inl rfl, LB kk (by unfold lnWay3; rw [if_pos c1, if_pos c2, if_neg z, if_pos y]) (by omega) f.1 f.2.1 f.2.2⟩
  · have z := (nI_eqI (by omega) (by omega)).mp z
    have f := fail_st (c := 3) fr3 hT3
    exact wX4_fail ⟨Or.inl rfl, LB kk (by unfold lnWay3; rw [if_pos c1, if_pos c2, if_pos z]) (by omega) f.1 f.2.1 f.2.2⟩
