def mby (I : hI_) (k : Int32) : Int32 := if k < I 68 1 then I 69 k.toNatClampNeg else -4
def inC (c w : Int32) : Prop := (0 ≤ c ∧ c < 12) ∧ (0 ≤ w ∧ w < 8)
def inD (d w : Int32) : Prop := (0 ≤ d ∧ d < 24) ∧ (0 ≤ w ∧ w < 4)
def its (I : hI_) (c w : Int32) : Int32 := I 82 (72 + 8 * c + w).toNatClampNeg
def snt (I : hI_) (d w : Int32) : Int32 := I 82 (170 + 4 * d + w).toNatClampNeg
def tbk (I : hI_) (c : Int32) : Int32 := if its I c 7 = 0 then 10000 else its I c 7 - 1
def rnk (I : hI_) (d : Int32) : Int32 := if I 73 6 = 0 then snt I d 2 else if I 73 6 = 1 then I 83 d.toNatClampNeg - snt I d 2 else d
def ahd (I : hI_) (d e : Int32) : Bool := decide (I 83 d.toNatClampNeg < I 83 e.toNatClampNeg ∨ (I 83 d.toNatClampNeg = I 83 e.toNatClampNeg ∧ (rnk I d < rnk I e ∨ (rnk I d = rnk I e ∧ d < e))))
theorem i32r {x : Int32} {a b : Int} {lo hi : Int32} (h : lo ≤ x ∧ x < hi) (ha : lo.toInt = a) (hb : hi.toInt = b) : a ≤ x.toInt ∧ x.toInt < b := ⟨by rw [← ha]; exact Int32.le_iff_toInt_le.mp h.1, by rw [← hb]; exact Int32.lt_iff_toInt_lt.mp h.2⟩
theorem itsT {c w : Int32} (h : inC c w) : (72 + 8 * c + w).toInt = 72 + 8 * c.toInt + w.toInt := by
  have h1 := i32r (a := 0) (b := 12) h.1 rfl rfl
  have h2 := i32r (a := 0) (b := 8) h.2 rfl rfl
  have e8 : (8 : Int32).toInt = 8 := rfl
  have e72 : (72 : Int32).toInt = 72 := rfl
  have e1 : (8 * c).toInt = 8 * c.toInt := by rw [ti_mul (by rw [e8]; omega) (by rw [e8]; omega), e8]
  have e2 : (72 + 8 * c).toInt = 72 + 8 * c.toInt := by rw [ti_add (by rw [e1, e72]; omega) (by rw [e1, e72]; omega), e1, e72]
  rw [ti_add (by rw [e2]; omega) (by rw [e2]; omega), e2]
theorem sntT {c w : Int32} (h : inD c w) : (170 + 4 * c + w).toInt = 170 + 4 * c.toInt + w.toInt := by
  have h1 := i32r (a := 0) (b := 24) h.1 rfl rfl
  have h2 := i32r (a := 0) (b := 4) h.2 rfl rfl
  have e8 : (4 : Int32).toInt = 4 := rfl
  have e72 : (170 : Int32).toInt = 170 := rfl
  have e1 : (4 * c).toInt = 4 * c.toInt := by rw [ti_mul (by rw [e8]; omega) (by rw [e8]; omega), e8]
  have e2 : (170 + 4 * c).toInt = 170 + 4 * c.toInt := by rw [ti_add (by rw [e1, e72]; omega) (by rw [e1, e72]; omega), e1, e72]
  rw [ti_add (by rw [e2]; omega) (by rw [e2]; omega), e2]
theorem its_in {c w : Int32} (h : inC c w) : vp_in (72 + 8 * c + w) 900 := by
  rw [vp_in_iff, itsT h]
  have h1 := i32r (a := 0) (b := 12) h.1 rfl rfl
  have h2 := i32r (a := 0) (b := 8) h.2 rfl rfl
  omega
theorem snt_in {c w : Int32} (h : inD c w) : vp_in (170 + 4 * c + w) 900 := by
  rw [vp_in_iff, sntT h]
  have h1 := i32r (a := 0) (b := 24) h.1 rfl rfl
  have h2 := i32r (a := 0) (b := 4) h.2 rfl rfl
  omega
theorem d24_in {d w : Int32} (h : inD d w) : vp_in d 24 := by
  rw [vp_in_iff]
  have h1 := i32r (a := 0) (b := 24) h.1 rfl rfl
  omega
theorem inC7 {c w : Int32} (h : inC c w) (w2 : Int32) (h2 : (0 ≤ w2 ∧ w2 < 8)) : inC c w2 := ⟨h.1, h2⟩
set_option maxHeartbeats 4000000 in
set_option maxRecDepth 20000 in
theorem wX12_isPlace {E : aE} {P : Int32 → hI_ → hJ_ → Prop} {I : hI_} {J : hJ_} {a0 : Int32} (k : P (b2i ((0 : Int32) ≤ a0 ∧ a0 ≤ ((I 73 0) - (1 : Int32)))) I J) : CallI E mX12_isPlace [.ref 68, .int a0] SH I J P := by
  refine Call_of (L := [.ref 68, .int a0]) ok_X12_isPlace.1 rfl rfl ?_
  refine V_iload_n dX12_isPlace_0 rfl ?_
  refine V_i2l dX12_isPlace_1 ?_
  refine V_lconst (v := (0 : Int64)) dX12_isPlace_2 rfl ?_
  refine V_aload_n dX12_isPlace_3 rfl ?_
  refine U_getR dX12_isPlace_4 fl_X12_22 s_68 rfl ?_
  refine V_iconst (v := (0 : Int32)) dX12_isPlace_7 rfl ?_
  refine U_ialdx (x := I 73 0) dX12_isPlace_8 s_73 (by unfold vp_in; decide) rfl ?_
  refine V_iconst (v := (1 : Int32)) dX12_isPlace_9 rfl ?_
  refine V_isub dX12_isPlace_10 ?_
  refine V_i2l dX12_isPlace_11 ?_
  refine U_callS1 [.long a0.toInt64, .long (0 : Int64), .long (((I 73 0) - (1 : Int32)).toInt64)] dX12_isPlace_12 os_X12_91 ⟨rfl, rfl, rfl⟩ rfl rfl rfl (tX12_in32 (v := a0) (lo := (0 : Int32)) (hi := ((I 73 0) - (1 : Int32))) rfl (by decide) rfl ?_)
  exact V_iret dX12_isPlace_15 ⟨_, rfl, b2i_nar⟩ rfl rfl ⟨_, _, _, rfl, rfl, k⟩
theorem tX12_isPlace {E : aE} {P : Int32 → hI_ → hJ_ → Prop} {I : hI_} {J : hJ_} {v : Int32} (k : P (b2i (0 ≤ v ∧ v ≤ I 73 0 - 1)) I J) : CallI E mX12_isPlace [.ref 68, .int v] SH I J P := wX12_isPlace k
set_option maxHeartbeats 4000000 in
set_option maxRecDepth 20000 in
theorem wX12_isMinute {E : aE} {P : Int32 → hI_ → hJ_ → Prop} {I : hI_} {J : hJ_} {a0 : Int32} (k : P (b2i ((0 : Int32) ≤ a0 ∧ a0 ≤ (999 : Int32))) I J) : CallI E mX12_isMinute [.int a0] SH I J P := by
  refine Call_of (L := [.int a0]) ok_X12_isMinute.1 rfl rfl ?_
  refine V_iload_n dX12_isMinute_0 rfl ?_
  refine V_i2l dX12_isMinute_1 ?_
  refine V_lconst (v := (0 : Int64)) dX12_isMinute_2 rfl ?_
  refine V_ldc2_w (v := (999 : Int64)) dX12_isMinute_3 (gt_6 19 rfl rfl) ?_
  refine U_callS1 [.long a0.toInt64, .long (0 : Int64), .long (999 : Int64)] dX12_isMinute_6 os_X12_91 ⟨rfl, rfl, rfl⟩ rfl rfl rfl (tX12_in32 (v := a0) (lo := (0 : Int32)) (hi := (999 : Int32)) rfl (by decide) (by decide) ?_)
  exact V_iret dX12_isMinute_9 ⟨_, rfl, b2i_nar⟩ rfl rfl ⟨_, _, _, rfl, rfl, k⟩
theorem tX12_isMinute {E : aE} {P : Int32 → hI_ → hJ_ → Prop} {I : hI_} {J : hJ_} {v : Int32} (k : P (b2i (0 ≤ v ∧ v ≤ 999)) I J) : CallI E mX12_isMinute [.int v] SH I J P := wX12_isMinute k
set_option maxHeartbeats 4000000 in
set_option maxRecDepth 20000 in
theorem wX12_orNone {E : aE} {P : Int32 → hI_ → hJ_ → Prop} {I : hI_} {J : hJ_} {a0 : Int32} (k : P (if a0 < (10000 : Int32) then a0 else (-4 : Int32)) I J) : CallI E mX12_orNone [.int a0] SH I J P := by
  refine Call_of (L := [.int a0]) ok_X12_orNone.1 rfl rfl ?_
  refine V_iload_n dX12_orNone_0 rfl ?_
  refine V_sipush (v := (10000 : Int32)) dX12_orNone_1 rfl ?_
  have key1 : ∀ (y2002 : Int32), y2002 = (if a0 < (10000 : Int32) then a0 else (-4 : Int32)) → V E mX12_orNone (kI SH P) 13 [.int a0] [.int y2002] (SH, I, J) (0, 0) := by
    intro y2002 ey2002
    subst ey2002
    exact V_iret dX12_orNone_13 ⟨_, rfl, rfl⟩ rfl rfl ⟨_, _, _, rfl, rfl, k⟩
  refine V_icmp_lt dX12_orNone_4 (fun c2003 => ?_) (fun c2003 => ?_)
  · refine V_iload_n dX12_orNone_12 rfl ?_
    exact key1 _ (by rw [if_pos c2003])
  · refine V_bipush (v := (-4 : Int32)) dX12_orNone_7 rfl ?_
    refine V_goto dX12_orNone_9 ?_
    exact key1 _ (by rw [if_neg c2003])
theorem tX12_orNone {E : aE} {P : Int32 → hI_ → hJ_ → Prop} {I : hI_} {J : hJ_} {v : Int32} (k : P (orN v) I J) : CallI E mX12_orNone [.int v] SH I J P := by
  refine wX12_orNone ?_
  unfold orN at k
  by_cases h : v < (10000 : Int32)
  · rw [if_neg (Int32.not_le.mpr h)] at k; rw [if_pos h]; exact k
  · rw [if_pos (Int32.not_lt.mp h)] at k; rw [if_neg h]; exact k
set_option maxHeartbeats 4000000 in
set_option maxRecDepth 20000 in
theorem wX12_byteAt {E : aE} {P : Int32 → hI_ → hJ_ → Prop} {I : hI_} {J : hJ_} {a0 : Int32} (k : ((¬ ((I 68 1) ≤ a0)) → vp_in a0 320) ∧ P (if (I 68 1) ≤ a0 then (-4 : Int32) else (I 69 a0.toNatClampNeg)) I J) : CallI E mX12_byteAt [.ref 68, .int a0] SH I J P := by
  refine Call_of (L := [.ref 68, .int a0]) ok_X12_byteAt.1 rfl rfl ?_
  refine V_iload_n dX12_byteAt_0 rfl ?_
  refine V_aload_n dX12_byteAt_1 rfl ?_
  refine U_getI dX12_byteAt_2 fl_X12_87 s_68 rfl ?_
  obtain ⟨hc2004, k⟩ := k
  have key1 : ∀ (y2003 : Int32), y2003 = (if (I 68 1) ≤ a0 then (-4 : Int32) else (I 69 a0.toNatClampNeg)) → V E mX12_byteAt (kI SH P) 19 [.ref 68, .int a0] [.int y2003] (SH, I, J) (0, 0) := by
    intro y2003 ey2003
    subst ey2003
    exact V_iret dX12_byteAt_19 ⟨_, rfl, rfl⟩ rfl rfl ⟨_, _, _, rfl, rfl, k⟩
  refine V_icmp_ge dX12_byteAt_5 (fun c2005 => ?_) (fun c2005 => ?_)
  · refine V_bipush (v := (-4 : Int32)) dX12_byteAt_17 rfl ?_
    exact key1 _ (by rw [if_pos c2005])
  · refine V_aload_n dX12_byteAt_8 rfl ?_
    refine U_getR dX12_byteAt_9 fl_X12_7 s_68 rfl ?_
    refine V_iload_n dX12_byteAt_12 rfl ?_
    have hb2002 := hc2004 c2005
    refine U_iald dX12_byteAt_13 s_69 hb2002 ?_
    refine V_goto dX12_byteAt_14 ?_
    exact key1 _ (by rw [if_neg c2005])
theorem tX12_byteAt {E : aE} {P : Int32 → hI_ → hJ_ → Prop} {I : hI_} {J : hJ_} {v : Int32} (h : 0 ≤ v ∧ I 68 1 ≤ 320) (k : P (mby I v) I J) : CallI E mX12_byteAt [.ref 68, .int v] SH I J P := by
  refine wX12_byteAt ⟨fun c => ?_, ?_⟩
  · rw [vp_in_iff]
    have h1 := Int32.le_iff_toInt_le.mp h.1
    have h2 := Int32.le_iff_toInt_le.mp h.2
    have h3 := Int32.lt_iff_toInt_lt.mp (Int32.not_le.mp c)
    have z : (0 : Int32).toInt = 0 := rfl
    have z4 : (320 : Int32).toInt = 320 := rfl
    omega
  · unfold mby at k
    by_cases c : I 68 1 ≤ v
    · rw [if_neg (Int32.not_lt.mpr c)] at k; rw [if_pos c]; exact k
    · rw [if_pos (Int32.not_le.mp c)] at k; rw [if_neg c]; exact k
set_option maxHeartbeats 4000000 in
set_option maxRecDepth 20000 in
theorem wX12_its {E : aE} {P : Int32 → hI_ → hJ_ → Prop} {I : hI_} {J : hJ_} {a0 : Int32} {a1 : Int32} (k : (vp_in (((72 : Int32) + ((8 : Int32) * a0)) + a1) 900) ∧ P (I 82 (((72 : Int32) + ((8 : Int32) * a0)) + a1).toNatClampNeg) I J) : CallI E mX12_its [.ref 68, .int a0, .int a1] SH I J P := by
  refine Call_of (L := [.ref 68, .int a0, .int a1]) ok_X12_its.1 rfl rfl ?_
  refine V_aload_n dX12_its_0 rfl ?_
  refine U_getR dX12_its_1 fl_X12_49 s_68 rfl ?_
  refine V_bipush (v := (72 : Int32)) dX12_its_4 rfl ?_
  refine V_bipush (v := (8 : Int32)) dX12_its_6 rfl ?_
  refine V_iload_n dX12_its_8 rfl ?_
  refine V_imul dX12_its_9 ?_
  refine V_iadd dX12_its_10 ?_
  refine V_iload_n dX12_its_11 rfl ?_
  refine V_iadd dX12_its_12 ?_
  obtain ⟨hb1, k⟩ := k
  refine U_iald dX12_its_13 s_82 hb1 ?_
  exact V_iret dX12_its_14 ⟨_, rfl, rfl⟩ rfl rfl ⟨_, _, _, rfl, rfl, k⟩
theorem tX12_its {E : aE} {P : Int32 → hI_ → hJ_ → Prop} {I : hI_} {J : hJ_} {c w : Int32} (h : inC c w) (k : P (its I c w) I J) : CallI E mX12_its [.ref 68, .int c, .int w] SH I J P := wX12_its ⟨its_in h, k⟩
set_option maxHeartbeats 4000000 in
set_option maxRecDepth 20000 in
theorem wX12_sent4 {E : aE} {P : Int32 → hI_ → hJ_ → Prop} {I : hI_} {J : hJ_} {a0 : Int32} {a1 : Int32} (k : (vp_in (((170 : Int32) + ((4 : Int32) * a0)) + a1) 900) ∧ P (I 82 (((170 : Int32) + ((4 : Int32) * a0)) + a1).toNatClampNeg) I J) : CallI E mX12_sent4 [.ref 68, .int a0, .int a1] SH I J P := by
  refine Call_of (L := [.ref 68, .int a0, .int a1]) ok_X12_sent4.1 rfl rfl ?_
  refine V_aload_n dX12_sent4_0 rfl ?_
  refine U_getR dX12_sent4_1 fl_X12_49 s_68 rfl ?_
  refine V_sipush (v := (170 : Int32)) dX12_sent4_4 rfl ?_
  refine V_iconst (v := (4 : Int32)) dX12_sent4_7 rfl ?_
  refine V_iload_n dX12_sent4_8 rfl ?_
  refine V_imul dX12_sent4_9 ?_
  refine V_iadd dX12_sent4_10 ?_
  refine V_iload_n dX12_sent4_11 rfl ?_
  refine V_iadd dX12_sent4_12 ?_
  obtain ⟨hb1, k⟩ := k
  refine U_iald dX12_sent4_13 s_82 hb1 ?_
  exact V_iret dX12_sent4_14 ⟨_, rfl, rfl⟩ rfl rfl ⟨_, _, _, rfl, rfl, k⟩
theorem tX12_sent4 {E : aE} {P : Int32 → hI_ → hJ_ → Prop} {I : hI_} {J : hJ_} {c w : Int32} (h : inD c w) (k : P (snt I c w) I J) : CallI E mX12_sent4 [.ref 68, .int c, .int w] SH I J P := wX12_sent4 ⟨snt_in h, k⟩
set_option maxHeartbeats 4000000 in
set_option maxRecDepth 20000 in
theorem wX12_deals {E : aE} {P : Int32 → hI_ → hJ_ → Prop} {I : hI_} {J : hJ_}  (k : P (I 82 282) I J) : CallI E mX12_deals [.ref 68] SH I J P := by
  refine Call_of (L := [.ref 68]) ok_X12_deals.1 rfl rfl ?_
  refine V_aload_n dX12_deals_0 rfl ?_
  refine U_getR dX12_deals_1 fl_X12_49 s_68 rfl ?_
  refine V_sipush (v := (282 : Int32)) dX12_deals_4 rfl ?_
  refine U_ialdx (x := I 82 282) dX12_deals_7 s_82 (by unfold vp_in; decide) rfl ?_
  exact V_iret dX12_deals_8 ⟨_, rfl, rfl⟩ rfl rfl ⟨_, _, _, rfl, rfl, k⟩
theorem tX12_deals {E : aE} {P : Int32 → hI_ → hJ_ → Prop} {I : hI_} {J : hJ_} (k : P (I 82 282) I J) : CallI E mX12_deals [.ref 68] SH I J P := wX12_deals k
set_option maxHeartbeats 4000000 in
set_option maxRecDepth 20000 in
theorem wX12_isCall {E : aE} {P : Int32 → hI_ → hJ_ → Prop} {I : hI_} {J : hJ_} {a0 : Int32} (k : P (b2i ((0 : Int32) ≤ a0 ∧ a0 ≤ ((I 82 281) - (1 : Int32)))) I J) : CallI E mX12_isCall [.ref 68, .int a0] SH I J P := by
  refine Call_of (L := [.ref 68, .int a0]) ok_X12_isCall.1 rfl rfl ?_
  refine V_iload_n dX12_isCall_0 rfl ?_
  refine V_i2l dX12_isCall_1 ?_
  refine V_lconst (v := (0 : Int64)) dX12_isCall_2 rfl ?_
  refine V_aload_n dX12_isCall_3 rfl ?_
  refine U_getR dX12_isCall_4 fl_X12_49 s_68 rfl ?_
  refine V_sipush (v := (281 : Int32)) dX12_isCall_7 rfl ?_
  refine U_ialdx (x := I 82 281) dX12_isCall_10 s_82 (by unfold vp_in; decide) rfl ?_
  refine V_iconst (v := (1 : Int32)) dX12_isCall_11 rfl ?_
  refine V_isub dX12_isCall_12 ?_
  refine V_i2l dX12_isCall_13 ?_
  refine U_callS1 [.long a0.toInt64, .long (0 : Int64), .long (((I 82 281) - (1 : Int32)).toInt64)] dX12_isCall_14 os_X12_91 ⟨rfl, rfl, rfl⟩ rfl rfl rfl (tX12_in32 (v := a0) (lo := (0 : Int32)) (hi := ((I 82 281) - (1 : Int32))) rfl (by decide) rfl ?_)
  exact V_iret dX12_isCall_17 ⟨_, rfl, b2i_nar⟩ rfl rfl ⟨_, _, _, rfl, rfl, k⟩
theorem tX12_isCall {E : aE} {P : Int32 → hI_ → hJ_ → Prop} {I : hI_} {J : hJ_} {v : Int32} (k : P (b2i (0 ≤ v ∧ v ≤ I 82 281 - 1)) I J) : CallI E mX12_isCall [.ref 68, .int v] SH I J P := wX12_isCall k
set_option maxHeartbeats 4000000 in
set_option maxRecDepth 20000 in
theorem wX12_isDeal {E : aE} {P : Int32 → hI_ → hJ_ → Prop} {I : hI_} {J : hJ_} {a0 : Int32} (k : P (b2i ((0 : Int32) ≤ a0 ∧ a0 ≤ ((I 82 282) - (1 : Int32)))) I J) : CallI E mX12_isDeal [.ref 68, .int a0] SH I J P := by
  refine Call_of (L := [.ref 68, .int a0]) ok_X12_isDeal.1 rfl rfl ?_
  refine V_iload_n dX12_isDeal_0 rfl ?_
  refine V_i2l dX12_isDeal_1 ?_
  refine V_lconst (v := (0 : Int64)) dX12_isDeal_2 rfl ?_
  refine V_aload_n dX12_isDeal_3 rfl ?_
  refine U_callV1 [] dX12_isDeal_4 ov_X12_221 s_68 rfl ⟨rfl, rfl, rfl⟩ rfl rfl rfl (tX12_deals ?_)
  refine V_iconst (v := (1 : Int32)) dX12_isDeal_7 rfl ?_
  refine V_isub dX12_isDeal_8 ?_
  refine V_i2l dX12_isDeal_9 ?_
  refine U_callS1 [.long a0.toInt64, .long (0 : Int64), .long (((I 82 282) - (1 : Int32)).toInt64)] dX12_isDeal_10 os_X12_91 ⟨rfl, rfl, rfl⟩ rfl rfl rfl (tX12_in32 (v := a0) (lo := (0 : Int32)) (hi := ((I 82 282) - (1 : Int32))) rfl (by decide) rfl ?_)
  exact V_iret dX12_isDeal_13 ⟨_, rfl, b2i_nar⟩ rfl rfl ⟨_, _, _, rfl, rfl, k⟩
theorem tX12_isDeal {E : aE} {P : Int32 → hI_ → hJ_ → Prop} {I : hI_} {J : hJ_} {v : Int32} (k : P (b2i (0 ≤ v ∧ v ≤ I 82 282 - 1)) I J) : CallI E mX12_isDeal [.ref 68, .int v] SH I J P := wX12_isDeal k
set_option maxHeartbeats 4000000 in
set_option maxRecDepth 20000 in
theorem wX12_takenBack {E : aE} {P : Int32 → hI_ → hJ_ → Prop} {I : hI_} {J : hJ_} {a0 : Int32} (k : (inC a0 (7 : Int32)) ∧ ((¬ (its I a0 (7 : Int32)) = (0 : Int32)) → inC a0 (7 : Int32)) ∧ P (if ¬ (its I a0 (7 : Int32)) = (0 : Int32) then ((its I a0 (7 : Int32)) - (1 : Int32)) else (10000 : Int32)) I J) : CallI E mX12_takenBack [.ref 68, .int a0] SH I J P := by
  refine Call_of (L := [.ref 68, .int a0]) ok_X12_takenBack.1 rfl rfl ?_
  refine V_aload_n dX12_takenBack_0 rfl ?_
  refine V_iload_n dX12_takenBack_1 rfl ?_
  refine V_bipush (v := (7 : Int32)) dX12_takenBack_2 rfl ?_
  obtain ⟨hp1, k⟩ := k
  refine U_callV1 [.int a0, .int (7 : Int32)] dX12_takenBack_4 ov_X12_202 s_68 rfl ⟨rfl, rfl, rfl⟩ rfl rfl rfl (tX12_its hp1 ?_)
  obtain ⟨hc2005, k⟩ := k
  have key2 : ∀ (y2004 : Int32), y2004 = (if ¬ (its I a0 (7 : Int32)) = (0 : Int32) then ((its I a0 (7 : Int32)) - (1 : Int32)) else (10000 : Int32)) → V E mX12_takenBack (kI SH P) 25 [.ref 68, .int a0] [.int y2004] (SH, I, J) (0, 0) := by
    intro y2004 ey2004
    subst ey2004
    exact V_iret dX12_takenBack_25 ⟨_, rfl, rfl⟩ rfl rfl ⟨_, _, _, rfl, rfl, k⟩
  refine V_if_ne dX12_takenBack_7 (fun c2006 => ?_) (fun c2006 => ?_)
  · refine V_aload_n dX12_takenBack_16 rfl ?_
    refine V_iload_n dX12_takenBack_17 rfl ?_
    refine V_bipush (v := (7 : Int32)) dX12_takenBack_18 rfl ?_
    have hp1003 := hc2005 c2006
    refine U_callV1 [.int a0, .int (7 : Int32)] dX12_takenBack_20 ov_X12_202 s_68 rfl ⟨rfl, rfl, rfl⟩ rfl rfl rfl (tX12_its hp1003 ?_)
    refine V_iconst (v := (1 : Int32)) dX12_takenBack_23 rfl ?_
    refine V_isub dX12_takenBack_24 ?_
    exact key2 _ (by rw [if_pos c2006])
  · refine V_sipush (v := (10000 : Int32)) dX12_takenBack_10 rfl ?_
    refine V_goto dX12_takenBack_13 ?_
    exact key2 _ (by rw [if_neg (not_not_intro c2006)])
theorem tX12_takenBack {E : aE} {P : Int32 → hI_ → hJ_ → Prop} {I : hI_} {J : hJ_} {c : Int32} (h : inC c 7) (k : P (tbk I c) I J) : CallI E mX12_takenBack [.ref 68, .int c] SH I J P := by
  refine wX12_takenBack ⟨h, ?_⟩
  unfold tbk at k
  refine ⟨fun _ => h, ?_⟩
  by_cases q : its I c 7 = 0
  · rw [if_pos q] at k; rw [if_neg (fun z => z q)]; exact k
  · rw [if_neg q] at k; rw [if_pos q]; exact k
set_option maxHeartbeats 4000000 in
set_option maxRecDepth 20000 in
theorem wX12_rank {E : aE} {P : Int32 → hI_ → hJ_ → Prop} {I : hI_} {J : hJ_} {a0 : Int32} (k : ((¬ (I 73 6) = (0 : Int32)) → ((I 73 6) = (1 : Int32)) → vp_in a0 24) ∧ ((¬ (I 73 6) = (0 : Int32)) → ((I 73 6) = (1 : Int32)) → inD a0 (2 : Int32)) ∧ (((I 73 6) = (0 : Int32)) → inD a0 (2 : Int32)) ∧ P (if ¬ (I 73 6) = (0 : Int32) then (if ¬ (I 73 6) = (1 : Int32) then a0 else ((I 83 a0.toNatClampNeg) - (snt I a0 (2 : Int32)))) else (snt I a0 (2 : Int32))) I J) : CallI E mX12_rank [.ref 68, .int a0] SH I J P := by
  refine Call_of (L := [.ref 68, .int a0]) ok_X12_rank.1 rfl rfl ?_
  refine V_aload_n dX12_rank_0 rfl ?_
  refine U_getR dX12_rank_1 fl_X12_22 s_68 rfl ?_
  refine V_bipush (v := (6 : Int32)) dX12_rank_4 rfl ?_
  refine U_ialdx (x := I 73 6) dX12_rank_6 s_73 (by unfold vp_in; decide) rfl ?_
  obtain ⟨hc2006, hc2007, hc2008, k⟩ := k
  have key1 : ∀ (y2005 : Int32), y2005 = (if ¬ (I 73 6) = (0 : Int32) then (if ¬ (I 73 6) = (1 : Int32) then a0 else ((I 83 a0.toNatClampNeg) - (snt I a0 (2 : Int32)))) else (snt I a0 (2 : Int32))) → V E mX12_rank (kI SH P) 47 [.ref 68, .int a0] [.int y2005] (SH, I, J) (0, 0) := by
    intro y2005 ey2005
    subst ey2005
    exact V_iret dX12_rank_47 ⟨_, rfl, rfl⟩ rfl rfl ⟨_, _, _, rfl, rfl, k⟩
  refine V_if_ne dX12_rank_7 (fun c2009 => ?_) (fun c2009 => ?_)
  · refine V_aload_n dX12_rank_19 rfl ?_
    refine U_getR dX12_rank_20 fl_X12_22 s_68 rfl ?_
    refine V_bipush (v := (6 : Int32)) dX12_rank_23 rfl ?_
    refine U_ialdx (x := I 73 6) dX12_rank_25 s_73 (by unfold vp_in; decide) rfl ?_
    refine V_iconst (v := (1 : Int32)) dX12_rank_26 rfl ?_
    refine V_icmp_ne dX12_rank_27 (fun c2010 => ?_) (fun c2010 => ?_)
    · refine V_iload_n dX12_rank_46 rfl ?_
      exact key1 _ (by rw [if_pos c2009, if_pos c2010])
    · refine V_aload_n dX12_rank_30 rfl ?_
      refine U_getR dX12_rank_31 fl_X12_52 s_68 rfl ?_
      refine V_iload_n dX12_rank_34 rfl ?_
      have hb1002 := hc2006 c2009 c2010
      refine U_iald dX12_rank_35 s_83 hb1002 ?_
      refine V_aload_n dX12_rank_36 rfl ?_
      refine V_iload_n dX12_rank_37 rfl ?_
      refine V_iconst (v := (2 : Int32)) dX12_rank_38 rfl ?_
      have hp1003 := hc2007 c2009 c2010
      refine U_callV1 [.int a0, .int (2 : Int32)] dX12_rank_39 ov_X12_224 s_68 rfl ⟨rfl, rfl, rfl⟩ rfl rfl rfl (tX12_sent4 hp1003 ?_)
      refine V_isub dX12_rank_42 ?_
      refine V_goto dX12_rank_43 ?_
      exact key1 _ (by rw [if_pos c2009, if_neg (not_not_intro c2010)])
  · refine V_aload_n dX12_rank_10 rfl ?_
    refine V_iload_n dX12_rank_11 rfl ?_
    refine V_iconst (v := (2 : Int32)) dX12_rank_12 rfl ?_
    have hp2004 := hc2008 c2009
    refine U_callV1 [.int a0, .int (2 : Int32)] dX12_rank_13 ov_X12_224 s_68 rfl ⟨rfl, rfl, rfl⟩ rfl rfl rfl (tX12_sent4 hp2004 ?_)
    refine V_goto dX12_rank_16 ?_
    exact key1 _ (by rw [if_neg (not_not_intro c2009)])
theorem tX12_rank {E : aE} {P : Int32 → hI_ → hJ_ → Prop} {I : hI_} {J : hJ_} {d : Int32} (h : inD d 2) (k : P (rnk I d) I J) : CallI E mX12_rank [.ref 68, .int d] SH I J P := by
  refine wX12_rank ⟨fun _ _ => d24_in h, fun _ _ => h, fun _ => h, ?_⟩
  unfold rnk at k
  by_cases q : I 73 6 = 0
  · rw [if_pos q] at k; rw [if_neg (fun z => z q)]; exact k
  rw [if_neg q] at k; rw [if_pos q]
  by_cases q : I 73 6 = 1
  · rw [if_pos q] at k; rw [if_neg (fun z => z q)]; exact k
  rw [if_neg q] at k; rw [if_pos q]; exact k
set_option maxHeartbeats 4000000 in
set_option maxRecDepth 20000 in
theorem wX12_isAhead {E : aE} {P : Int32 → hI_ → hJ_ → Prop} {I : hI_} {J : hJ_} {a0 : Int32} {a1 : Int32} (k : (vp_in a0 24) ∧ (vp_in a1 24) ∧ ((¬ ((I 83 a0.toNatClampNeg) < (I 83 a1.toNatClampNeg))) → vp_in a0 24) ∧ ((¬ ((I 83 a0.toNatClampNeg) < (I 83 a1.toNatClampNeg))) → vp_in a1 24) ∧ ((¬ ((I 83 a0.toNatClampNeg) < (I 83 a1.toNatClampNeg))) → ((I 83 a0.toNatClampNeg) = (I 83 a1.toNatClampNeg)) → inD a0 2) ∧ ((¬ ((I 83 a0.toNatClampNeg) < (I 83 a1.toNatClampNeg))) → ((I 83 a0.toNatClampNeg) = (I 83 a1.toNatClampNeg)) → inD a1 2) ∧ ((¬ ((I 83 a0.toNatClampNeg) < (I 83 a1.toNatClampNeg))) → ((I 83 a0.toNatClampNeg) = (I 83 a1.toNatClampNeg)) → (¬ ((rnk I a0) < (rnk I a1))) → inD a0 2) ∧ ((¬ ((I 83 a0.toNatClampNeg) < (I 83 a1.toNatClampNeg))) → ((I 83 a0.toNatClampNeg) = (I 83 a1.toNatClampNeg)) → (¬ ((rnk I a0) < (rnk I a1))) → inD a1 2) ∧ P (b2i (((I 83 a0.toNatClampNeg) < (I 83 a1.toNatClampNeg)) ∨ (((I 83 a0.toNatClampNeg) = (I 83 a1.toNatClampNeg)) ∧ (((rnk I a0) < (rnk I a1)) ∨ (((rnk I a0) = (rnk I a1)) ∧ (¬ (a1 ≤ a0))))))) I J) : CallI E mX12_isAhead [.ref 68, .int a0, .int a1] SH I J P := by
  refine Call_of (L := [.ref 68, .int a0, .int a1]) ok_X12_isAhead.1 rfl rfl ?_
  refine V_aload_n dX12_isAhead_0 rfl ?_
  refine U_getR dX12_isAhead_1 fl_X12_52 s_68 rfl ?_
  refine V_iload_n dX12_isAhead_4 rfl ?_
  obtain ⟨hb1, k⟩ := k
  refine U_iald dX12_isAhead_5 s_83 hb1 ?_
  refine V_aload_n dX12_isAhead_6 rfl ?_
  refine U_getR dX12_isAhead_7 fl_X12_52 s_68 rfl ?_
  refine V_iload_n dX12_isAhead_10 rfl ?_
  obtain ⟨hb2, k⟩ := k
  refine U_iald dX12_isAhead_11 s_83 hb2 ?_
  obtain ⟨hc2011, hc2012, hc2013, hc2014, hc2015, hc2016, k⟩ := k
  have key3 : ∀ (y2010 : Int32), y2010 = (b2i (((I 83 a0.toNatClampNeg) < (I 83 a1.toNatClampNeg)) ∨ (((I 83 a0.toNatClampNeg) = (I 83 a1.toNatClampNeg)) ∧ (((rnk I a0) < (rnk I a1)) ∨ (((rnk I a0) = (rnk I a1)) ∧ (¬ (a1 ≤ a0))))))) → V E mX12_isAhead (kI SH P) 66 [.ref 68, .int a0, .int a1] [.int y2010] (SH, I, J) (0, 0) := by
    intro y2010 ey2010
    subst ey2010
    exact V_iret dX12_isAhead_66 ⟨_, rfl, b2i_nar⟩ rfl rfl ⟨_, _, _, rfl, rfl, k⟩
  refine V_icmp_lt dX12_isAhead_12 (fun c2017 => ?_) (fun c2017 => ?_)
  · refine V_iconst (v := (1 : Int32)) dX12_isAhead_61 rfl ?_
    refine V_goto dX12_isAhead_62 ?_
    exact key3 _ ((b2i_1.mpr (Or.inl c2017)).symm)
  · refine V_aload_n dX12_isAhead_15 rfl ?_
    refine U_getR dX12_isAhead_16 fl_X12_52 s_68 rfl ?_
    refine V_iload_n dX12_isAhead_19 rfl ?_
    have hb2004 := hc2011 c2017
    refine U_iald dX12_isAhead_20 s_83 hb2004 ?_
    refine V_aload_n dX12_isAhead_21 rfl ?_
    refine U_getR dX12_isAhead_22 fl_X12_52 s_68 rfl ?_
    refine V_iload_n dX12_isAhead_25 rfl ?_
    have hb2005 := hc2012 c2017
    refine U_iald dX12_isAhead_26 s_83 hb2005 ?_
    refine V_icmp_ne dX12_isAhead_27 (fun c2018 => ?_) (fun c2018 => ?_)
    · refine V_iconst (v := (0 : Int32)) dX12_isAhead_65 rfl ?_
      exact key3 _ ((b2i_0.mpr (fun q => q.elim (fun z => c2017 z) (fun q => c2018 q.1))).symm)
    · refine V_aload_n dX12_isAhead_30 rfl ?_
      refine V_iload_n dX12_isAhead_31 rfl ?_
      have hp2006 := hc2013 c2017 c2018
      refine U_callV1 [.int a0] dX12_isAhead_32 ov_X12_234 s_68 rfl ⟨rfl, rfl, rfl⟩ rfl rfl rfl (tX12_rank hp2006 ?_)
      refine V_aload_n dX12_isAhead_35 rfl ?_
      refine V_iload_n dX12_isAhead_36 rfl ?_
      have hp2007 := hc2014 c2017 c2018
      refine U_callV1 [.int a1] dX12_isAhead_37 ov_X12_234 s_68 rfl ⟨rfl, rfl, rfl⟩ rfl rfl rfl (tX12_rank hp2007 ?_)
      refine V_icmp_lt dX12_isAhead_40 (fun c2019 => ?_) (fun c2019 => ?_)
      · refine V_iconst (v := (1 : Int32)) dX12_isAhead_61 rfl ?_
        refine V_goto dX12_isAhead_62 ?_
        exact key3 _ ((b2i_1.mpr (Or.inr (⟨c2018, Or.inl c2019⟩))).symm)
      · refine V_aload_n dX12_isAhead_43 rfl ?_
        refine V_iload_n dX12_isAhead_44 rfl ?_
        have hp2008 := hc2015 c2017 c2018 c2019
        refine U_callV1 [.int a0] dX12_isAhead_45 ov_X12_234 s_68 rfl ⟨rfl, rfl, rfl⟩ rfl rfl rfl (tX12_rank hp2008 ?_)
        refine V_aload_n dX12_isAhead_48 rfl ?_
        refine V_iload_n dX12_isAhead_49 rfl ?_
        have hp2009 := hc2016 c2017 c2018 c2019
        refine U_callV1 [.int a1] dX12_isAhead_50 ov_X12_234 s_68 rfl ⟨rfl, rfl, rfl⟩ rfl rfl rfl (tX12_rank hp2009 ?_)
        refine V_icmp_ne dX12_isAhead_53 (fun c2020 => ?_) (fun c2020 => ?_)
        · refine V_iconst (v := (0 : Int32)) dX12_isAhead_65 rfl ?_
          exact key3 _ ((b2i_0.mpr (fun q => q.elim (fun z => c2017 z) (fun q => (fun q => q.elim (fun z => c2019 z) (fun q => c2020 q.1)) q.2))).symm)
        · refine V_iload_n dX12_isAhead_56 rfl ?_
          refine V_iload_n dX12_isAhead_57 rfl ?_
          refine V_icmp_ge dX12_isAhead_58 (fun c2021 => ?_) (fun c2021 => ?_)
          · refine V_iconst (v := (0 : Int32)) dX12_isAhead_65 rfl ?_
            exact key3 _ ((b2i_0.mpr (fun q => q.elim (fun z => c2017 z) (fun q => (fun q => q.elim (fun z => c2019 z) (fun q => (fun q => q c2021) q.2)) q.2))).symm)
          · refine V_iconst (v := (1 : Int32)) dX12_isAhead_61 rfl ?_
            refine V_goto dX12_isAhead_62 ?_
            exact key3 _ ((b2i_1.mpr (Or.inr (⟨c2018, Or.inr (⟨c2020, c2021⟩)⟩))).symm)
theorem tX12_isAhead {E : aE} {P : Int32 → hI_ → hJ_ → Prop} {I : hI_} {J : hJ_} {d e : Int32} (h : inD d 2) (h2 : inD e 2) (k : P (b2i (ahd I d e = true)) I J) : CallI E mX12_isAhead [.ref 68, .int d, .int e] SH I J P := by
  refine wX12_isAhead ⟨d24_in h, d24_in h2, fun _ => d24_in h, fun _ => d24_in h2, fun _ _ => h, fun _ _ => h2, fun _ _ _ => h, fun _ _ _ => h2, ?_⟩
  rw [b2i_congr (q := ahd I d e = true) (by simp [ahd, Int32.not_le])]
  exact k
