def HX8_push_24 (E : aE) (P : Int32 → hI_ → hJ_ → Prop) (v1 : Int64) (v3 : Int32) (I : hI_) (J : hJ_) : Prop := V E mX8_push (kI SH P) 24 [.ref 1, .long v1, .retAddr 0, .int v3] [] (SH, I, J) (0, 0)
set_option maxHeartbeats 4000000 in
set_option maxRecDepth 20000 in
theorem wX8_push {E : aE} {P : Int32 → hI_ → hJ_ → Prop} {I : hI_} {J : hJ_} {a0 : Int64} (k : (((I 1 1) < (0 : Int32) → P (0 : Int32) I J) ∧ (¬ ((I 1 1) < (0 : Int32)) → ((((I 1 1) + (8 : Int32)) ≤ (320 : Int32) → HX8_push_24 E P a0 (0 : Int32) I J) ∧ (¬ (((I 1 1) + (8 : Int32)) ≤ (320 : Int32)) → P (0 : Int32) I J))))) : CallI E mX8_push [.ref 1, .long a0] SH I J P := by
  refine Call_of (L := [.ref 1, .long a0, .retAddr 0, .retAddr 0]) ok_X8_push.1 rfl rfl ?_
  refine V_aload_n dX8_push_0 rfl ?_
  refine U_getI dX8_push_1 fl_X8_15 s_1 rfl ?_
  refine V_if_lt dX8_push_4 (fun c1 => ?_) (fun c1 => ?_)
  · have k := k.1 c1
    refine V_iconst (v := (0 : Int32)) dX8_push_20 rfl ?_
    exact V_iret dX8_push_21 ⟨_, rfl, rfl⟩ rfl rfl ⟨_, _, _, rfl, rfl, k⟩
  · have k := k.2 c1
    refine V_aload_n dX8_push_7 rfl ?_
    refine U_getI dX8_push_8 fl_X8_15 s_1 rfl ?_
    refine V_bipush (v := (8 : Int32)) dX8_push_11 rfl ?_
    refine V_iadd dX8_push_13 ?_
    refine V_sipush (v := (320 : Int32)) dX8_push_14 rfl ?_
    refine V_icmp_le dX8_push_17 (fun c2 => ?_) (fun c2 => ?_)
    · have k := k.1 c2
      refine V_iconst (v := (0 : Int32)) dX8_push_22 rfl ?_
      refine U_istore_n (L2 := [.ref 1, .long a0, .retAddr 0, .int (0 : Int32)]) dX8_push_23 (by decide) rfl ?_
      exact k
    · have k := k.2 c2
      refine V_iconst (v := (0 : Int32)) dX8_push_20 rfl ?_
      exact V_iret dX8_push_21 ⟨_, rfl, rfl⟩ rfl rfl ⟨_, _, _, rfl, rfl, k⟩
set_option maxHeartbeats 4000000 in
set_option maxRecDepth 20000 in
theorem wX8_push_24 {E : aE} {P : Int32 → hI_ → hJ_ → Prop} {I : hI_} {J : hJ_} {v1 : Int64} {v3 : Int32} (k : (((8 : Int32) ≤ v3 → P (1 : Int32) (upI I 1 1 ((I 1 1) + (8 : Int32))) J) ∧ (¬ ((8 : Int32) ≤ v3) → (vp_in ((I 1 1) + v3) 320) ∧ HX8_push_24 E P v1 (v3 + (1 : Int32)) (upI I 2 (((I 1 1) + v3).toNatClampNeg) (((((v1.toUInt64 >>> (((56 : Int32) - ((8 : Int32) * v3)).toInt64.toUInt64 &&& Int64.toUInt64 63)).toInt64).toInt32).toInt8.toInt32).toInt8.toInt32)) J))) : HX8_push_24 E P v1 v3 I J := by
  show V E mX8_push (kI SH P) 24 [.ref 1, .long v1, .retAddr 0, .int v3] [] (SH, I, J) (0, 0)
  refine V_iload_n dX8_push_24 rfl ?_
  refine V_bipush (v := (8 : Int32)) dX8_push_25 rfl ?_
  refine V_icmp_ge dX8_push_27 (fun c1 => ?_) (fun c1 => ?_)
  · have k := k.1 c1
    refine V_aload_n dX8_push_58 rfl ?_
    refine V_dupR dX8_push_59 ?_
    refine U_getI dX8_push_60 fl_X8_15 s_1 rfl ?_
    refine V_bipush (v := (8 : Int32)) dX8_push_63 rfl ?_
    refine V_iadd dX8_push_65 ?_
    refine U_putI dX8_push_66 fp_X8_15 s_1 rfl ?_
    refine V_iconst (v := (1 : Int32)) dX8_push_69 rfl ?_
    exact V_iret dX8_push_70 ⟨_, rfl, rfl⟩ rfl rfl ⟨_, _, _, rfl, rfl, k⟩
  · have k := k.2 c1
    refine V_aload_n dX8_push_30 rfl ?_
    refine U_getR dX8_push_31 fl_X8_9 s_1 rfl ?_
    refine V_aload_n dX8_push_34 rfl ?_
    refine U_getI dX8_push_35 fl_X8_15 s_1 rfl ?_
    refine V_iload_n dX8_push_38 rfl ?_
    refine V_iadd dX8_push_39 ?_
    refine V_lload_n dX8_push_40 rfl ?_
    refine V_bipush (v := (56 : Int32)) dX8_push_41 rfl ?_
    refine V_bipush (v := (8 : Int32)) dX8_push_43 rfl ?_
    refine V_iload_n dX8_push_45 rfl ?_
    refine V_imul dX8_push_46 ?_
    refine V_isub dX8_push_47 ?_
    refine V_lushr dX8_push_48 ?_
    refine V_l2i dX8_push_49 ?_
    refine V_i2b dX8_push_50 ?_
    obtain ⟨hb2, k⟩ := k
    refine U_bast dX8_push_51 s_2 hb2 ?_
    refine U_iinc (v := v3 + (1 : Int32)) (L2 := [.ref 1, .long v1, .retAddr 0, .int (v3 + (1 : Int32))]) dX8_push_52 (by decide) rfl rfl rfl ?_
    refine V_goto dX8_push_55 ?_
    exact k
set_option maxHeartbeats 4000000 in
set_option maxRecDepth 20000 in
theorem wX11_feed {E : aE} {P : Int32 → hI_ → hJ_ → Prop} {I : hI_} {J : hJ_} {a0 : Int64} (k : CallI E mX8_push [.ref 1, .long a0] SH I J (fun x1 I2 J3 => P (if x1 = (0 : Int32) then (-3 : Int32) else (I2 1 1)) I2 J3)) : CallI E mX11_feed [.ref 0, .long a0] SH I J P := by
  refine Call_of (L := [.ref 0, .long a0, .retAddr 0]) ok_X11_feed.1 rfl rfl ?_
  refine V_aload_n dX11_feed_0 rfl ?_
  refine U_getR dX11_feed_1 fl_X11_10 s_0 rfl ?_
  refine V_lload_n dX11_feed_4 rfl ?_
  refine U_callV1 [.long a0] dX11_feed_5 ov_X11_96 s_1 rfl ⟨rfl, rfl, rfl⟩ rfl rfl rfl (CallI_mono k (fun x1 I2 J3 k => ?_))
  have key4 : ∀ (y2005 : Int32), y2005 = (if x1 = (0 : Int32) then (-3 : Int32) else (I2 1 1)) → V E mX11_feed (kI SH P) 23 [.ref 0, .long a0, .retAddr 0] [.int y2005] (SH, I2, J3) (0, 0) := by
    intro y2005 ey2005
    subst ey2005
    exact V_iret dX11_feed_23 ⟨_, rfl, rfl⟩ rfl rfl ⟨_, _, _, rfl, rfl, k⟩
  refine V_if_eq dX11_feed_8 (fun c2006 => ?_) (fun c2006 => ?_)
  · refine V_bipush (v := (-3 : Int32)) dX11_feed_21 rfl ?_
    exact key4 _ (by rw [if_pos c2006])
  · refine V_aload_n dX11_feed_11 rfl ?_
    refine U_getR dX11_feed_12 fl_X11_10 s_0 rfl ?_
    refine U_getI dX11_feed_15 fl_X11_100 s_1 rfl ?_
    refine V_goto dX11_feed_18 ?_
    exact key4 _ (by rw [if_neg c2006])
def HX12_feed_19 (E : aE) (P : Int32 → hI_ → hJ_ → Prop) (v1 : Int64) (v3 : Int32) (I : hI_) (J : hJ_) : Prop := V E mX12_feed (kI SH P) 19 [.ref 68, .long v1, .retAddr 0, .int v3] [] (SH, I, J) (0, 0)
set_option maxHeartbeats 4000000 in
set_option maxRecDepth 20000 in
theorem wX12_feed {E : aE} {P : Int32 → hI_ → hJ_ → Prop} {I : hI_} {J : hJ_} {a0 : Int64} (k : ((((I 68 1) + (8 : Int32)) ≤ (320 : Int32) → HX12_feed_19 E P a0 (56 : Int32) I J) ∧ (¬ (((I 68 1) + (8 : Int32)) ≤ (320 : Int32)) → P (-3 : Int32) I J))) : CallI E mX12_feed [.ref 68, .long a0] SH I J P := by
  refine Call_of (L := [.ref 68, .long a0, .retAddr 0, .retAddr 0]) ok_X12_feed.1 rfl rfl ?_
  refine V_aload_n dX12_feed_0 rfl ?_
  refine U_getI dX12_feed_1 fl_X12_87 s_68 rfl ?_
  refine V_bipush (v := (8 : Int32)) dX12_feed_4 rfl ?_
  refine V_iadd dX12_feed_6 ?_
  refine V_sipush (v := (320 : Int32)) dX12_feed_7 rfl ?_
  refine V_icmp_le dX12_feed_10 (fun c1 => ?_) (fun c1 => ?_)
  · have k := k.1 c1
    refine V_bipush (v := (56 : Int32)) dX12_feed_16 rfl ?_
    refine U_istore_n (L2 := [.ref 68, .long a0, .retAddr 0, .int (56 : Int32)]) dX12_feed_18 (by decide) rfl ?_
    exact k
  · have k := k.2 c1
    refine V_bipush (v := (-3 : Int32)) dX12_feed_13 rfl ?_
    exact V_iret dX12_feed_15 ⟨_, rfl, rfl⟩ rfl rfl ⟨_, _, _, rfl, rfl, k⟩
set_option maxHeartbeats 4000000 in
set_option maxRecDepth 20000 in
theorem wX12_feed_19 {E : aE} {P : Int32 → hI_ → hJ_ → Prop} {I : hI_} {J : hJ_} {v1 : Int64} {v3 : Int32} (k : ((v3 < (0 : Int32) → P (I 68 1) I J) ∧ (¬ (v3 < (0 : Int32)) → (vp_in (I 68 1) 320) ∧ HX12_feed_19 E P v1 (v3 + (-8 : Int32)) (upI (upI I 69 ((I 68 1).toNatClampNeg) (((v1 >>> (v3.toInt64 &&& 63)).toInt32) &&& (255 : Int32))) 68 1 ((I 68 1) + (1 : Int32))) J))) : HX12_feed_19 E P v1 v3 I J := by
  show V E mX12_feed (kI SH P) 19 [.ref 68, .long v1, .retAddr 0, .int v3] [] (SH, I, J) (0, 0)
  refine V_iload_n dX12_feed_19 rfl ?_
  refine V_if_lt dX12_feed_20 (fun c1 => ?_) (fun c1 => ?_)
  · have k := k.1 c1
    refine V_aload_n dX12_feed_56 rfl ?_
    refine U_getI dX12_feed_57 fl_X12_87 s_68 rfl ?_
    exact V_iret dX12_feed_60 ⟨_, rfl, rfl⟩ rfl rfl ⟨_, _, _, rfl, rfl, k⟩
  · have k := k.2 c1
    refine V_aload_n dX12_feed_23 rfl ?_
    refine U_getR dX12_feed_24 fl_X12_7 s_68 rfl ?_
    refine V_aload_n dX12_feed_27 rfl ?_
    refine U_getI dX12_feed_28 fl_X12_87 s_68 rfl ?_
    refine V_lload_n dX12_feed_31 rfl ?_
    refine V_iload_n dX12_feed_32 rfl ?_
    refine V_lshr dX12_feed_33 ?_
    refine V_l2i dX12_feed_34 ?_
    refine V_sipush (v := (255 : Int32)) dX12_feed_35 rfl ?_
    refine V_iand dX12_feed_38 ?_
    obtain ⟨hb2, k⟩ := k
    refine U_iast dX12_feed_39 s_69 hb2 ?_
    refine V_aload_n dX12_feed_40 rfl ?_
    refine V_dupR dX12_feed_41 ?_
    refine U_getIx (x := I 68 1) dX12_feed_42 fl_X12_87 s_68 rfl rfl ?_
    refine V_iconst (v := (1 : Int32)) dX12_feed_45 rfl ?_
    refine V_iadd dX12_feed_46 ?_
    refine U_putI dX12_feed_47 fp_X12_87 s_68 rfl ?_
    refine U_iinc (v := v3 + (-8 : Int32)) (L2 := [.ref 68, .long v1, .retAddr 0, .int (v3 + (-8 : Int32))]) dX12_feed_50 (by decide) rfl rfl rfl ?_
    refine V_goto dX12_feed_53 ?_
    exact k
/-- the byte that the class, the model put at a place of the eight -/
def bx (v : Int64) (i : Nat) : Int32 := ((((v.toUInt64 >>> (((56 : Int32) - 8 * nI i).toInt64.toUInt64 &&& Int64.toUInt64 63)).toInt64).toInt32).toInt8.toInt32).toInt8.toInt32
def mx (v : Int64) (k : Nat) : Int32 := ((v >>> ((nI k).toInt64 &&& 63)).toInt32) &&& 255
theorem b8_idem (x : Int32) : x.toInt8.toInt32.toInt8 = x.toInt8 := by
  apply Int8.toBitVec_inj.mp
  apply BitVec.eq_of_getLsbD_eq
  intro i hi
  simp only [Int32.toBitVec_toInt8, Int8.toBitVec_toInt32, BitVec.getLsbD_signExtend]
  have h32 : i < 32 := by omega
  simp [hi, h32]
theorem low8 {x : BitVec 64} {k i : Nat} (hk : k ≤ 56) (hi : i < 8) : (x >>> k).getLsbD i = (x.sshiftRight k).getLsbD i := by
  rw [BitVec.getLsbD_ushiftRight, BitVec.getLsbD_sshiftRight, if_pos (by omega)]
  have : ¬ (64 ≤ i) := by omega
  simp [this]
theorem mask8 : ∀ i, i < 8 → (255#32).getLsbD i = true := by decide
theorem byte_eq (v : Int64) {k : Nat} (hk : k ≤ 56) {s : UInt64} {r : Int64} (hs : (s.toBitVec % 64).toNat = k) (hr : (r.toBitVec.smod 64).toNat = k) : ((v.toUInt64 >>> s).toInt64).toInt32.toInt8 = (((v >>> r).toInt32) &&& 255).toInt8 := by
  apply Int8.toBitVec_inj.mp
  apply BitVec.eq_of_getLsbD_eq
  intro i hi
  have h32 : i < 32 := by omega
  have h64 : i < 64 := by omega
  have e1 : (v.toUInt64 >>> s).toInt64.toBitVec = v.toBitVec >>> k := by
    have : (v.toUInt64 >>> s).toInt64.toBitVec = (v.toUInt64 >>> s).toBitVec := rfl
    rw [this, UInt64.toBitVec_shiftRight, BitVec.ushiftRight_eq', hs]
    rfl
  have e2 : (v >>> r).toBitVec = v.toBitVec.sshiftRight k := by
    rw [Int64.toBitVec_shiftRight, BitVec.sshiftRight_eq', hr]
  have m8 := mask8 i hi
  simp only [Int32.toBitVec_toInt8, Int64.toBitVec_toInt32, Int32.toBitVec_and, BitVec.getLsbD_signExtend, BitVec.getLsbD_and, e1, e2]
  rw [show (255 : Int32).toBitVec = 255#32 from rfl, m8, low8 hk hi]
  simp [hi, h32, h64]
theorem bx_mx (v : Int64) {i : Nat} (hi : i < 8) : bx v i = (mx v (56 - 8 * i)).toInt8.toInt32 := by
  unfold bx mx
  rw [b8_idem]
  congr 1
  rcases (show i = 0 ∨ i = 1 ∨ i = 2 ∨ i = 3 ∨ i = 4 ∨ i = 5 ∨ i = 6 ∨ i = 7 by omega) with rfl | rfl | rfl | rfl | rfl | rfl | rfl | rfl
  · exact byte_eq v (k := 56) (by omega) (by decide +kernel) (by decide +kernel)
  · exact byte_eq v (k := 48) (by omega) (by decide +kernel) (by decide +kernel)
  · exact byte_eq v (k := 40) (by omega) (by decide +kernel) (by decide +kernel)
  · exact byte_eq v (k := 32) (by omega) (by decide +kernel) (by decide +kernel)
  · exact byte_eq v (k := 24) (by omega) (by decide +kernel) (by decide +kernel)
  · exact byte_eq v (k := 16) (by omega) (by decide +kernel) (by decide +kernel)
  · exact byte_eq v (k := 8) (by omega) (by decide +kernel) (by decide +kernel)
  · exact byte_eq v (k := 0) (by omega) (by decide +kernel) (by decide +kernel)
theorem mx_bet (v : Int64) (k : Nat) : 0 ≤ (mx v k).toInt ∧ (mx v k).toInt ≤ 255 := by
  obtain ⟨j, h1, h2⟩ := pk_andE (v >>> ((nI k).toInt64 &&& 63)).toInt32 (m := 255) 8 (by decide)
  have : mx v k = nI j := h2
  rw [this, nI_toInt (by omega)]
  omega
def pshI (I : hI_) (L : Nat) (v : Int64) (i : Nat) : hI_ := fun a => if a = 2 then (fun j => if L ≤ j ∧ j < L + i then bx v (j - L) else I 2 j) else I a
theorem pshI_0 (I : hI_) (L : Nat) (v : Int64) : pshI I L v 0 = I := by
  funext a j
  unfold pshI
  by_cases h : a = 2
  · subst h
    simp only [if_true]
    rw [if_neg (by omega)]
  · simp [h]
theorem pshI_s (I : hI_) (L : Nat) (v : Int64) (i : Nat) : upI (pshI I L v i) 2 (L + i) (bx v i) = pshI I L v (i + 1) := by
  funext a j
  rw [upI_at]
  unfold pshI
  by_cases h : a = 2
  · subst h
    by_cases hj : j = L + i
    · subst hj
      simp
    · simp only [if_true, hj, and_false, if_false]
      by_cases h1 : L ≤ j ∧ j < L + i
      · rw [if_pos h1, if_pos (by omega)]
      · rw [if_neg h1, if_neg (by omega)]
  · simp [h]
theorem push_loop {E : aE} {P : Int32 → hI_ → hJ_ → Prop} {J : hJ_} {I : hI_} {v : Int64} {L : Nat} (hL : L + 8 ≤ 320) (h1 : I 1 1 = nI L) (k : P 1 (upI (pshI I L v 8) 1 1 (nI (L + 8))) J) : ∀ (m i : Nat), i + m = 8 → HX8_push_24 E P v (nI i) (pshI I L v i) J
  | 0, i, h => by
    have hi : i = 8 := by omega
    subst hi
    have e : (pshI I L v 8) 1 1 = nI L := h1
    refine wX8_push_24 ⟨fun _ => ?_, fun c => absurd (by decide) c⟩
    rw [e, show nI L + 8 = nI (L + 8) from nI_add L 8]
    exact k
  | m + 1, i, h => by
    have e : (pshI I L v i) 1 1 = nI L := h1
    refine wX8_push_24 ⟨fun c => absurd c (nI_ge (b := 8) (by omega) (by omega)), fun _ => ?_⟩
    rw [e, nI_add, nI_clamp (by omega), nI_1]
    refine ⟨vp_in_nI (by omega) (by omega), ?_⟩
    have e2 := pshI_s I L v i
    unfold bx at e2
    rw [e2]
    exact push_loop hL h1 k m (i + 1) (by omega)
def fdI (I : hI_) (L : Nat) (v : Int64) (i : Nat) : hI_ := fun a => if a = 69 then (fun j => if L ≤ j ∧ j < L + i then mx v (56 - 8 * (j - L)) else I 69 j) else if a = 68 then upd (I 68) 1 (nI (L + i)) else I a
theorem fdI_0 {I : hI_} {L : Nat} (v : Int64) (h : I 68 1 = nI L) : fdI I L v 0 = I := by
  funext a j
  unfold fdI
  by_cases h1 : a = 69
  · subst h1
    simp only [if_true]
    rw [if_neg (by omega)]
  · rw [if_neg h1]
    by_cases h2 : a = 68
    · subst h2
      rw [if_pos rfl]
      unfold upd
      by_cases h3 : j = 1
      · subst h3; rw [if_pos rfl, h]; rfl
      · rw [if_neg h3]
    · rw [if_neg h2]
theorem fdI_s (I : hI_) (L : Nat) (v : Int64) (i : Nat) : upI (upI (fdI I L v i) 69 (L + i) (mx v (56 - 8 * i))) 68 1 (nI (L + i + 1)) = fdI I L v (i + 1) := by
  funext a j
  rw [upI_at, upI_at]
  unfold fdI upd
  by_cases h1 : a = 69
  · subst h1
    simp only [show ¬ (69 = 68) by omega, false_and, if_false, true_and, if_true]
    by_cases hj : j = L + i
    · subst hj
      simp
    · rw [if_neg hj]
      by_cases h1 : L ≤ j ∧ j < L + i
      · rw [if_pos h1, if_pos (by omega)]
      · rw [if_neg h1, if_neg (by omega)]
  · by_cases h2 : a = 68
    · subst h2
      by_cases hj : j = 1
      · subst hj; simp; rfl
      · simp [hj]
    · simp [h1, h2]
theorem feed_loop {E : aE} {P : Int32 → hI_ → hJ_ → Prop} {J : hJ_} {I : hI_} {v : Int64} {L : Nat} (hL : L + 8 ≤ 320) (k : P (nI (L + 8)) (fdI I L v 8) J) : ∀ (m i : Nat), i + m = 8 → ∀ q : Int32, (i < 8 → q = nI (56 - 8 * i)) → (i = 8 → q = -8) → HX12_feed_19 E P v q (fdI I L v i) J
  | 0, i, h, q, _, hq => by
    have hi : i = 8 := by omega
    rw [hq hi]
    subst hi
    exact wX12_feed_19 ⟨fun _ => k, fun c => absurd (by decide) c⟩
  | m + 1, i, h, q, hq, _ => by
    rw [hq (by omega)]
    have e : (fdI I L v i) 68 1 = nI (L + i) := by simp [fdI, upd]
    refine wX12_feed_19 ⟨fun c => absurd c (nI_pos (by omega)), fun _ => ?_⟩
    rw [e, nI_clamp (by omega), nI_1]
    refine ⟨vp_in_nI (by omega) (by omega), ?_⟩
    have e2 := fdI_s I L v i
    unfold mx at e2
    rw [e2]
    refine feed_loop hL k m (i + 1) (by omega) _ (fun hi => ?_) (fun hi => ?_)
    · have : nI (56 - 8 * i) = nI (56 - 8 * (i + 1)) + 8 := by
        rw [show (8 : Int32) = nI 8 from rfl, nI_add]
        congr 1
        omega
      rw [this, show (-8 : Int32) = -8 from rfl, Int32.add_assoc, show (8 : Int32) + -8 = 0 from rfl, Int32.add_zero]
    · have : i = 7 := by omega
      subst this
      rfl
theorem op_feed {E : aE} {I : hI_} {J : hJ_} {P : hI_ → hJ_ → Prop} {v : Int64} (h : Rel I) (hP : ∀ I2 J2, Rel I2 → P I2 J2) : Op2 E mX11_feed mX12_feed [.long v] I J P := by
  obtain ⟨t1, t2, t3, t4⟩ := h.1
  obtain ⟨L, hL, hI⟩ : ∃ L : Nat, L ≤ 320 ∧ I 1 1 = nI L := ⟨(I 1 1).toInt.toNat, by omega, ofT t2⟩
  have hM : I 68 1 = nI L := t1.symm.trans hI
  have e8 : nI L + 8 = nI (L + 8) := nI_add L 8
  have c0 : ¬ I 1 1 < 0 := by rw [hI]; exact nI_pos (by omega)
  by_cases hf : L + 8 ≤ 320
  · refine wX11_feed (wX8_push ⟨fun c => absurd c c0, fun _ => ⟨fun _ => ?_, fun c => absurd (by rw [hI, e8]; exact nI_le (b := 320) hf (by omega)) c⟩⟩)
    rw [← pshI_0 I L v]
    refine push_loop hf hI ?_ 8 0 (by omega)
    rw [if_neg (by decide)]
    generalize hI1 : upI (pshI I L v 8) 1 1 (nI (L + 8)) = I1
    have g1 : I1 1 1 = nI (L + 8) := by rw [← hI1]; exact upI_same
    have g68 : I1 68 = I 68 := by rw [← hI1]; rfl
    have gM : I1 68 1 = nI L := by rw [g68]; exact hM
    refine wX12_feed ⟨fun _ => ?_, fun c => absurd (by rw [gM, e8]; exact nI_le (b := 320) hf (by omega)) c⟩
    rw [← fdI_0 (I := I1) v gM]
    refine feed_loop hf ⟨g1, hP _ _ ?_⟩ 8 0 (by omega) 56 (fun _ => rfl) (fun q => absurd q (by omega))
    refine Rel_tape h ⟨?_, ?_, ?_, fun k hk => ?_⟩ (fun a q1 q2 q3 q4 => ?_) ?_ ?_
    · show I1 1 1 = _
      rw [g1]; rfl
    · show 0 ≤ (I1 1 1).toInt
      rw [g1, nI_toInt (by omega)]; omega
    · show (I1 1 1).toInt ≤ 320
      rw [g1, nI_toInt (by omega)]; omega
    · have hk : (k : Int) < (I1 1 1).toInt := hk
      rw [g1, nI_toInt (by omega)] at hk
      have ex : fdI I1 L v 8 2 k = (if L ≤ k ∧ k < L + 8 then bx v (k - L) else I 2 k) := by
        show I1 2 k = _
        rw [← hI1]; rfl
      have em : fdI I1 L v 8 69 k = (if L ≤ k ∧ k < L + 8 then mx v (56 - 8 * (k - L)) else I 69 k) := by
        show (if L ≤ k ∧ k < L + 8 then mx v (56 - 8 * (k - L)) else I1 69 k) = _
        rw [← hI1]; rfl
      rw [ex, em]
      by_cases hl : L ≤ k ∧ k < L + 8
      · rw [if_pos hl, if_pos hl]
        exact ⟨bx_mx v (by omega), mx_bet v _⟩
      · rw [if_neg hl, if_neg hl]
        exact t4 k (by rw [hI, nI_toInt (by omega)]; omega)
    · have : fdI I1 L v 8 a = I1 a := by simp [fdI, q3, q4]
      rw [this, ← hI1]
      simp [upI, pshI, q1, q2]
    · show upd (I1 68) 1 (nI (L + 8)) 2 = _
      rw [g68]; rfl
    · show upd (I1 68) 1 (nI (L + 8)) 37 = _
      rw [g68]; rfl
  · have hn : ¬ (nI L + 8 ≤ 320) := by rw [e8]; exact nI_ge (a := 320) (by omega) (by omega)
    refine wX11_feed (wX8_push ⟨fun c => absurd c c0, fun _ => ⟨fun c => absurd c (by rw [hI]; exact hn), fun _ => ?_⟩⟩)
    rw [if_pos rfl]
    exact wX12_feed ⟨fun c => absurd c (by rw [hM]; exact hn), fun _ => ⟨rfl, hP I J h⟩⟩
