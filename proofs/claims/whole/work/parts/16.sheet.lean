def shAt (I : hI_) (a b : Nat) (i : Int32) : Int32 := if 0 ≤ i ∧ i < I a 2 then I b i.toNatClampNeg else 0
def shWh (I : hI_) (a : Nat) (f n : Int32) : Int32 := if 0 ≤ f ∧ f < I a 2 then jmin n ((I a 2 - f) / 3) else 0
def lnv (l v : Int32) : Int32 := if l = 0 then v.toInt8.toInt32 else if l = 1 then v.toInt16.toInt32 else v
def shPut (I : hI_) (a b : Nat) (i v : Int32) : hI_ := if 0 ≤ i ∧ i < I a 2 then upI I b i.toNatClampNeg (lnv (I a 1) v) else I
theorem in40 {I : hI_} {a : Nat} {i : Int32} (h : I a 2 ≤ 40) (h1 : 0 ≤ i) (h2 : i < I a 2) : vp_in i 40 := by
  rw [vp_in_iff]
  have h1 := Int32.le_iff_toInt_le.mp h1
  have h2 := Int32.lt_iff_toInt_lt.mp h2
  have h := Int32.le_iff_toInt_le.mp h
  have z : (0 : Int32).toInt = 0 := rfl
  have z4 : (40 : Int32).toInt = 40 := rfl
  omega
set_option maxHeartbeats 4000000 in
set_option maxRecDepth 20000 in
theorem wX6_isNothing {E : aE} {P : Int32 → hI_ → hJ_ → Prop} {I : hI_} {J : hJ_} {a b : Nat}  (ha : SH[a]? = some (.inr (6, [b + 3, 0, 0]))) (hb : SH[b]? = some (.inl (0, 40, []))) (k : P (b2i ((I a 1) = (-1 : Int32))) I J) : CallI E mX6_isNothing [.ref a] SH I J P := by
  refine Call_of (L := [.ref a]) ok_X6_isNothing.1 rfl rfl ?_
  refine V_aload_n dX6_isNothing_0 rfl ?_
  refine U_getI dX6_isNothing_1 fl_X6_15 ha rfl ?_
  refine V_iconst (v := (-1 : Int32)) dX6_isNothing_4 rfl ?_
  have key1 : ∀ (y2002 : Int32), y2002 = (b2i ((I a 1) = (-1 : Int32))) → V E mX6_isNothing (kI SH P) 13 [.ref a] [.int y2002] (SH, I, J) (0, 0) := by
    intro y2002 ey2002
    subst ey2002
    exact V_iret dX6_isNothing_13 ⟨_, rfl, b2i_nar⟩ rfl rfl ⟨_, _, _, rfl, rfl, k⟩
  refine V_icmp_ne dX6_isNothing_5 (fun c2003 => ?_) (fun c2003 => ?_)
  · refine V_iconst (v := (0 : Int32)) dX6_isNothing_12 rfl ?_
    exact key1 _ ((b2i_0.mpr (fun q => c2003 q)).symm)
  · refine V_iconst (v := (1 : Int32)) dX6_isNothing_8 rfl ?_
    refine V_goto dX6_isNothing_9 ?_
    exact key1 _ ((b2i_1.mpr (c2003)).symm)
theorem tX6_isNothing {E : aE} {P : Int32 → hI_ → hJ_ → Prop} {I : hI_} {J : hJ_} {a b : Nat} (ha : SH[a]? = some (.inr (6, [b + 3, 0, 0]))) (hb : SH[b]? = some (.inl (0, 40, []))) (k : P (b2i (I a 1 = -1)) I J) : CallI E mX6_isNothing [.ref a] SH I J P := wX6_isNothing ha hb k
set_option maxHeartbeats 4000000 in
set_option maxRecDepth 20000 in
theorem wX6_renew {E : aE} {P : hI_ → hJ_ → Prop} {I : hI_} {J : hJ_} {a b : Nat} {a0 : Int32} {a1 : Int32} (ha : SH[a]? = some (.inr (6, [b + 3, 0, 0]))) (hb : SH[b]? = some (.inl (0, 40, []))) (k : P (flI (upI (upI I a 1 a0) a 2 (jmin (jmax a1 (0 : Int32)) (40 : Int32))) b 40 (0 : Int32)) J) : CallV E mX6_renew [.ref a, .int a0, .int a1] SH I J P := by
  refine Call_of (L := [.ref a, .int a0, .int a1]) ok_X6_renew.1 rfl rfl ?_
  refine V_aload_n dX6_renew_0 rfl ?_
  refine V_iload_n dX6_renew_1 rfl ?_
  refine U_putI dX6_renew_2 fp_X6_15 ha rfl ?_
  refine V_aload_n dX6_renew_5 rfl ?_
  refine V_iload_n dX6_renew_6 rfl ?_
  refine V_iconst (v := (0 : Int32)) dX6_renew_7 rfl ?_
  refine V_mmax dX6_renew_8 om_X6_19 rfl ?_
  refine V_bipush (v := (40 : Int32)) dX6_renew_11 rfl ?_
  refine V_mmin dX6_renew_13 om_X6_25 rfl ?_
  refine U_putI dX6_renew_16 fp_X6_28 ha rfl ?_
  refine V_aload_n dX6_renew_19 rfl ?_
  refine U_getR dX6_renew_20 fl_X6_9 ha rfl ?_
  refine V_iconst (v := (0 : Int32)) dX6_renew_23 rfl ?_
  refine U_callS0 [.ref b, .int (0 : Int32)] dX6_renew_24 os_X6_31 ⟨rfl, rfl, rfl⟩ rfl rfl rfl (tfillI hb (by decide) ?_)
  exact V_vret dX6_renew_27 rfl rfl rfl ⟨_, _, rfl, k⟩
theorem tX6_renew {E : aE} {P : hI_ → hJ_ → Prop} {I : hI_} {J : hJ_} {a b : Nat} {l n : Int32} (ha : SH[a]? = some (.inr (6, [b + 3, 0, 0]))) (hb : SH[b]? = some (.inl (0, 40, []))) (k : P (flI (upI (upI I a 1 l) a 2 (jmin (jmax n 0) 40)) b 40 0) J) : CallV E mX6_renew [.ref a, .int l, .int n] SH I J P := wX6_renew ha hb k
set_option maxHeartbeats 4000000 in
set_option maxRecDepth 20000 in
theorem wX6_at {E : aE} {P : Int32 → hI_ → hJ_ → Prop} {I : hI_} {J : hJ_} {a b : Nat} {a0 : Int32} (ha : SH[a]? = some (.inr (6, [b + 3, 0, 0]))) (hb : SH[b]? = some (.inl (0, 40, []))) (k : ((¬ (a0 < (0 : Int32))) → (¬ ((I a 2) ≤ a0)) → vp_in a0 40) ∧ P (if a0 < (0 : Int32) then (0 : Int32) else (if (I a 2) ≤ a0 then (0 : Int32) else (I b a0.toNatClampNeg))) I J) : CallI E mX6_at [.ref a, .int a0] SH I J P := by
  refine Call_of (L := [.ref a, .int a0]) ok_X6_at.1 rfl rfl ?_
  refine V_iload_n dX6_at_0 rfl ?_
  obtain ⟨hc2004, k⟩ := k
  have key1 : ∀ (y2003 : Int32), y2003 = (if a0 < (0 : Int32) then (0 : Int32) else (if (I a 2) ≤ a0 then (0 : Int32) else (I b a0.toNatClampNeg))) → V E mX6_at (kI SH P) 22 [.ref a, .int a0] [.int y2003] (SH, I, J) (0, 0) := by
    intro y2003 ey2003
    subst ey2003
    exact V_iret dX6_at_22 ⟨_, rfl, rfl⟩ rfl rfl ⟨_, _, _, rfl, rfl, k⟩
  refine V_if_lt dX6_at_1 (fun c2005 => ?_) (fun c2005 => ?_)
  · refine V_iconst (v := (0 : Int32)) dX6_at_21 rfl ?_
    exact key1 _ (by rw [if_pos c2005])
  · refine V_iload_n dX6_at_4 rfl ?_
    refine V_aload_n dX6_at_5 rfl ?_
    refine U_getI dX6_at_6 fl_X6_28 ha rfl ?_
    refine V_icmp_ge dX6_at_9 (fun c2006 => ?_) (fun c2006 => ?_)
    · refine V_iconst (v := (0 : Int32)) dX6_at_21 rfl ?_
      exact key1 _ (by rw [if_neg c2005, if_pos c2006])
    · refine V_aload_n dX6_at_12 rfl ?_
      refine U_getR dX6_at_13 fl_X6_9 ha rfl ?_
      refine V_iload_n dX6_at_16 rfl ?_
      have hb2002 := hc2004 c2005 c2006
      refine U_iald dX6_at_17 hb hb2002 ?_
      refine V_goto dX6_at_18 ?_
      exact key1 _ (by rw [if_neg c2005, if_neg c2006])
theorem tX6_at {E : aE} {P : Int32 → hI_ → hJ_ → Prop} {I : hI_} {J : hJ_} {a b : Nat} {i : Int32} (ha : SH[a]? = some (.inr (6, [b + 3, 0, 0]))) (hb : SH[b]? = some (.inl (0, 40, []))) (h : I a 2 ≤ 40) (k : P (shAt I a b i) I J) : CallI E mX6_at [.ref a, .int i] SH I J P := by
  refine wX6_at ha hb ⟨fun c1 c2 => in40 h (Int32.not_lt.mp c1) (Int32.not_le.mp c2), ?_⟩
  unfold shAt at k
  by_cases c1 : i < 0
  · rw [if_neg (fun q => Int32.not_lt.mpr q.1 c1)] at k; rw [if_pos c1]; exact k
  rw [if_neg c1]
  by_cases c2 : I a 2 ≤ i
  · rw [if_neg (fun q => Int32.not_lt.mpr c2 q.2)] at k; rw [if_pos c2]; exact k
  rw [if_neg c2]
  rw [if_pos ⟨Int32.not_lt.mp c1, Int32.not_le.mp c2⟩] at k
  exact k
set_option maxHeartbeats 4000000 in
set_option maxRecDepth 20000 in
theorem wX6_put {E : aE} {P : Int32 → hI_ → hJ_ → Prop} {I : hI_} {J : hJ_} {a b : Nat} {a0 : Int32} {a1 : Int32} (ha : SH[a]? = some (.inr (6, [b + 3, 0, 0]))) (hb : SH[b]? = some (.inl (0, 40, []))) (k : ((a0 < (0 : Int32) → P (0 : Int32) I J) ∧ (¬ (a0 < (0 : Int32)) → ((a0 < (I a 2) → (vp_in a0 40) ∧ P (1 : Int32) (upI I b a0.toNatClampNeg (if ¬ (I a 1) = (0 : Int32) then (if ¬ (I a 1) = (1 : Int32) then a1 else a1.toInt16.toInt32) else a1.toInt8.toInt32)) J) ∧ (¬ (a0 < (I a 2)) → P (0 : Int32) I J))))) : CallI E mX6_put [.ref a, .int a0, .int a1] SH I J P := by
  refine Call_of (L := [.ref a, .int a0, .int a1]) ok_X6_put.1 rfl rfl ?_
  refine V_iload_n dX6_put_0 rfl ?_
  refine V_if_lt dX6_put_1 (fun c1 => ?_) (fun c1 => ?_)
  · have k := k.1 c1
    refine V_iconst (v := (0 : Int32)) dX6_put_12 rfl ?_
    exact V_iret dX6_put_13 ⟨_, rfl, rfl⟩ rfl rfl ⟨_, _, _, rfl, rfl, k⟩
  · have k := k.2 c1
    refine V_iload_n dX6_put_4 rfl ?_
    refine V_aload_n dX6_put_5 rfl ?_
    refine U_getI dX6_put_6 fl_X6_28 ha rfl ?_
    refine V_icmp_lt dX6_put_9 (fun c2 => ?_) (fun c2 => ?_)
    · have k := k.1 c2
      refine V_aload_n dX6_put_14 rfl ?_
      refine U_getR dX6_put_15 fl_X6_9 ha rfl ?_
      refine V_iload_n dX6_put_18 rfl ?_
      refine V_aload_n dX6_put_19 rfl ?_
      refine U_getI dX6_put_20 fl_X6_15 ha rfl ?_
      have key3 : ∀ (y2004 : Int32), y2004 = (if ¬ (I a 1) = (0 : Int32) then (if ¬ (I a 1) = (1 : Int32) then a1 else a1.toInt16.toInt32) else a1.toInt8.toInt32) → V E mX6_put (kI SH P) 45 [.ref a, .int a0, .int a1] [.int y2004, .int a0, .ref b] (SH, I, J) (0, 0) := by
        intro y2004 ey2004
        subst ey2004
        obtain ⟨hb2005, k⟩ := k
        refine U_iast dX6_put_45 hb hb2005 ?_
        refine V_iconst (v := (1 : Int32)) dX6_put_46 rfl ?_
        exact V_iret dX6_put_47 ⟨_, rfl, rfl⟩ rfl rfl ⟨_, _, _, rfl, rfl, k⟩
      refine V_if_ne dX6_put_23 (fun c2006 => ?_) (fun c2006 => ?_)
      · refine V_aload_n dX6_put_31 rfl ?_
        refine U_getI dX6_put_32 fl_X6_15 ha rfl ?_
        refine V_iconst (v := (1 : Int32)) dX6_put_35 rfl ?_
        refine V_icmp_ne dX6_put_36 (fun c2007 => ?_) (fun c2007 => ?_)
        · refine V_iload_n dX6_put_44 rfl ?_
          exact key3 _ (by rw [if_pos c2006, if_pos c2007])
        · refine V_iload_n dX6_put_39 rfl ?_
          refine V_i2s dX6_put_40 ?_
          refine V_goto dX6_put_41 ?_
          exact key3 _ (by rw [if_pos c2006, if_neg (not_not_intro c2007)])
      · refine V_iload_n dX6_put_26 rfl ?_
        refine V_i2b dX6_put_27 ?_
        refine V_goto dX6_put_28 ?_
        exact key3 _ (by rw [if_neg (not_not_intro c2006)])
    · have k := k.2 c2
      refine V_iconst (v := (0 : Int32)) dX6_put_12 rfl ?_
      exact V_iret dX6_put_13 ⟨_, rfl, rfl⟩ rfl rfl ⟨_, _, _, rfl, rfl, k⟩
theorem tX6_put {E : aE} {P : Int32 → hI_ → hJ_ → Prop} {I : hI_} {J : hJ_} {a b : Nat} {i v : Int32} (ha : SH[a]? = some (.inr (6, [b + 3, 0, 0]))) (hb : SH[b]? = some (.inl (0, 40, []))) (h : I a 2 ≤ 40) (k : P (b2i (0 ≤ i ∧ i < I a 2)) (shPut I a b i v) J) : CallI E mX6_put [.ref a, .int i, .int v] SH I J P := by
  unfold shPut at k
  refine wX6_put ha hb ⟨fun c1 => ?_, fun c1 => ⟨fun c2 => ⟨in40 h (Int32.not_lt.mp c1) c2, ?_⟩, fun c2 => ?_⟩⟩
  · have q : ¬ (0 ≤ i ∧ i < I a 2) := fun q => Int32.not_lt.mpr q.1 c1
    rw [if_neg q, b2i_0.mpr q] at k; exact k
  · have q : (0 ≤ i ∧ i < I a 2) := ⟨Int32.not_lt.mp c1, c2⟩
    rw [if_pos q, b2i_1.mpr q] at k
    unfold lnv at k
    have e : (if ¬ (I a 1) = 0 then (if ¬ (I a 1) = 1 then v else v.toInt16.toInt32) else v.toInt8.toInt32) = (if I a 1 = 0 then v.toInt8.toInt32 else if I a 1 = 1 then v.toInt16.toInt32 else v) := by
      by_cases h0 : I a 1 = 0
      · simp [h0]
      · by_cases h1 : I a 1 = 1
        · simp [h1]
        · simp [h0, h1]
    rw [e]
    exact k
  · have q : ¬ (0 ≤ i ∧ i < I a 2) := fun q => c2 q.2
    rw [if_neg q, b2i_0.mpr q] at k; exact k
set_option maxHeartbeats 4000000 in
set_option maxRecDepth 20000 in
theorem wX6_faultAs {E : aE} {P : Int32 → hI_ → hJ_ → Prop} {I : hI_} {J : hJ_} {a b : Nat} {a0 : Int32} (ha : SH[a]? = some (.inr (6, [b + 3, 0, 0]))) (hb : SH[b]? = some (.inl (0, 40, []))) (k : ((¬ (I a 1 = -1) → P (if ¬ (I a 1) = a0 then (3 : Int32) else (0 : Int32)) I J) ∧ ((I a 1 = -1) → P (1 : Int32) I J))) : CallI E mX6_faultAs [.ref a, .int a0] SH I J P := by
  refine Call_of (L := [.ref a, .int a0]) ok_X6_faultAs.1 rfl rfl ?_
  refine V_aload_n dX6_faultAs_0 rfl ?_
  refine U_callV1 [] dX6_faultAs_1 ov_X6_37 ha rfl ⟨rfl, rfl, rfl⟩ rfl rfl rfl (tX6_isNothing ha hb ?_)
  refine U_ifb_eq dX6_faultAs_4 (fun c1 => ?_) (fun c1 => ?_)
  · have k := k.1 c1
    refine V_aload_n dX6_faultAs_9 rfl ?_
    refine U_getI dX6_faultAs_10 fl_X6_15 ha rfl ?_
    refine V_iload_n dX6_faultAs_13 rfl ?_
    have key2 : ∀ (y2003 : Int32), y2003 = (if ¬ (I a 1) = a0 then (3 : Int32) else (0 : Int32)) → V E mX6_faultAs (kI SH P) 22 [.ref a, .int a0] [.int y2003] (SH, I, J) (0, 0) := by
      intro y2003 ey2003
      subst ey2003
      exact V_iret dX6_faultAs_22 ⟨_, rfl, rfl⟩ rfl rfl ⟨_, _, _, rfl, rfl, k⟩
    refine V_icmp_ne dX6_faultAs_14 (fun c2004 => ?_) (fun c2004 => ?_)
    · refine V_iconst (v := (3 : Int32)) dX6_faultAs_21 rfl ?_
      exact key2 _ (by rw [if_pos c2004])
    · refine V_iconst (v := (0 : Int32)) dX6_faultAs_17 rfl ?_
      refine V_goto dX6_faultAs_18 ?_
      exact key2 _ (by rw [if_neg (not_not_intro c2004)])
  · have k := k.2 c1
    refine V_iconst (v := (1 : Int32)) dX6_faultAs_7 rfl ?_
    exact V_iret dX6_faultAs_8 ⟨_, rfl, rfl⟩ rfl rfl ⟨_, _, _, rfl, rfl, k⟩
theorem tX6_faultAs {E : aE} {P : Int32 → hI_ → hJ_ → Prop} {I : hI_} {J : hJ_} {a b : Nat} {l : Int32} (ha : SH[a]? = some (.inr (6, [b + 3, 0, 0]))) (hb : SH[b]? = some (.inl (0, 40, []))) (k : P (if I a 1 = -1 then 1 else if I a 1 = l then 0 else 3) I J) : CallI E mX6_faultAs [.ref a, .int l] SH I J P := by
  refine wX6_faultAs ha hb ⟨fun c1 => ?_, fun c1 => ?_⟩
  · rw [if_neg c1] at k
    by_cases h : I a 1 = l
    · rw [if_pos h] at k; rw [if_neg (fun q => q h)]; exact k
    · rw [if_neg h] at k; rw [if_pos h]; exact k
  · rw [if_pos c1] at k; exact k
set_option maxHeartbeats 4000000 in
set_option maxRecDepth 20000 in
theorem wX6_wholeSteps {E : aE} {P : Int32 → hI_ → hJ_ → Prop} {I : hI_} {J : hJ_} {a b : Nat} {a0 : Int32} {a1 : Int32} (ha : SH[a]? = some (.inr (6, [b + 3, 0, 0]))) (hb : SH[b]? = some (.inl (0, 40, []))) (k : P (if a0 < (0 : Int32) then (0 : Int32) else (if a0 < (I a 2) then (jmin a1 (((I a 2) - a0) / (3 : Int32))) else (0 : Int32))) I J) : CallI E mX6_wholeSteps [.ref a, .int a0, .int a1] SH I J P := by
  refine Call_of (L := [.ref a, .int a0, .int a1]) ok_X6_wholeSteps.1 rfl rfl ?_
  refine V_iload_n dX6_wholeSteps_0 rfl ?_
  have key1 : ∀ (y2002 : Int32), y2002 = (if a0 < (0 : Int32) then (0 : Int32) else (if a0 < (I a 2) then (jmin a1 (((I a 2) - a0) / (3 : Int32))) else (0 : Int32))) → V E mX6_wholeSteps (kI SH P) 28 [.ref a, .int a0, .int a1] [.int y2002] (SH, I, J) (0, 0) := by
    intro y2002 ey2002
    subst ey2002
    exact V_iret dX6_wholeSteps_28 ⟨_, rfl, rfl⟩ rfl rfl ⟨_, _, _, rfl, rfl, k⟩
  refine V_if_lt dX6_wholeSteps_1 (fun c2003 => ?_) (fun c2003 => ?_)
  · refine V_iconst (v := (0 : Int32)) dX6_wholeSteps_12 rfl ?_
    refine V_goto dX6_wholeSteps_13 ?_
    exact key1 _ (by rw [if_pos c2003])
  · refine V_iload_n dX6_wholeSteps_4 rfl ?_
    refine V_aload_n dX6_wholeSteps_5 rfl ?_
    refine U_getI dX6_wholeSteps_6 fl_X6_28 ha rfl ?_
    refine V_icmp_lt dX6_wholeSteps_9 (fun c2004 => ?_) (fun c2004 => ?_)
    · refine V_iload_n dX6_wholeSteps_16 rfl ?_
      refine V_aload_n dX6_wholeSteps_17 rfl ?_
      refine U_getI dX6_wholeSteps_18 fl_X6_28 ha rfl ?_
      refine V_iload_n dX6_wholeSteps_21 rfl ?_
      refine V_isub dX6_wholeSteps_22 ?_
      refine V_iconst (v := (3 : Int32)) dX6_wholeSteps_23 rfl ?_
      refine V_idiv dX6_wholeSteps_24 (by decide) ?_
      refine V_mmin dX6_wholeSteps_25 om_X6_25 rfl ?_
      exact key1 _ (by rw [if_neg c2003, if_pos c2004])
    · refine V_iconst (v := (0 : Int32)) dX6_wholeSteps_12 rfl ?_
      refine V_goto dX6_wholeSteps_13 ?_
      exact key1 _ (by rw [if_neg c2003, if_neg c2004])
theorem tX6_wholeSteps {E : aE} {P : Int32 → hI_ → hJ_ → Prop} {I : hI_} {J : hJ_} {a b : Nat} {f n : Int32} (ha : SH[a]? = some (.inr (6, [b + 3, 0, 0]))) (hb : SH[b]? = some (.inl (0, 40, []))) (k : P (shWh I a f n) I J) : CallI E mX6_wholeSteps [.ref a, .int f, .int n] SH I J P := by
  refine wX6_wholeSteps ha hb ?_
  unfold shWh at k
  by_cases c1 : f < 0
  · rw [if_neg (fun q => Int32.not_lt.mpr q.1 c1)] at k; rw [if_pos c1]; exact k
  rw [if_neg c1]
  by_cases c2 : f < I a 2
  · rw [if_pos ⟨Int32.not_lt.mp c1, c2⟩] at k; rw [if_pos c2]; exact k
  · rw [if_neg (fun q => c2 q.2)] at k; rw [if_neg c2]; exact k
