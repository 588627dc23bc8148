/-! what is lost -/
def offN (k w : Nat) : Nat := (if 12 ≤ k then k - 12 else 12 - k) - w
def offChk : Bool := (List.range 25).all (fun k => (List.range 13).all (fun w => decide (jmax 0 (jabs (nI k - 12) - nI w) = nI (offN k w)) && (decide (((if 0 ≤ nI k - 12 then nI k - 12 else -(nI k - 12)) - nI w ≤ 0) = (offN k w = 0)) && (decide (0 < offN k w → (if 0 ≤ nI k - 12 then nI k - 12 else -(nI k - 12)) - nI w = nI (offN k w)) && (decide (12 + (nI k - 12) = nI k) && (decide (¬ 12 < nI k - 12) && decide (nI k - 12 + 1 = nI (k + 1) - 12)))))))
theorem offChk_t : offChk = true := by decide +kernel
theorem off_all {k w : Nat} (hk : k < 25) (hw : w ≤ 12) : jmax 0 (jabs (nI k - 12) - nI w) = nI (offN k w) ∧ ((if 0 ≤ nI k - 12 then nI k - 12 else -(nI k - 12)) - nI w ≤ 0 ↔ offN k w = 0) ∧ (0 < offN k w → (if 0 ≤ nI k - 12 then nI k - 12 else -(nI k - 12)) - nI w = nI (offN k w)) ∧ 12 + (nI k - 12) = nI k ∧ ¬ 12 < nI k - 12 ∧ nI k - 12 + 1 = nI (k + 1) - 12 := by
  have h := offChk_t
  unfold offChk at h
  have h2 := List.all_eq_true.mp (List.all_eq_true.mp h k (List.mem_range.mpr hk)) w (List.mem_range.mpr (by omega))
  simp only [Bool.and_eq_true, decide_eq_true_eq] at h2
  obtain ⟨a, b, c, d, e, f⟩ := h2
  exact ⟨a, by rw [b], c, d, e, f⟩
theorem off_le (k w : Nat) (hk : k < 25) : offN k w ≤ 12 := by
  unfold offN; split <;> omega
def lsN (I : hI_) (n w : Nat) : Nat → Nat
  | 0 => 0
  | k + 1 => lsN I n w k + cN I n k * offN k w
theorem lsN_le {I : hI_} {n w : Nat} : ∀ k, k ≤ 25 → lsN I n w k ≤ k * (12 * mS I ^ n)
  | 0, _ => by rw [Nat.zero_mul]; exact Nat.le_refl _
  | k + 1, hk => by
    have e : lsN I n w (k + 1) = lsN I n w k + cN I n k * offN k w := rfl
    have h1 := lsN_le (I := I) (n := n) (w := w) k (by omega)
    have h2 := Nat.mul_le_mul (@cN_le I n k) (off_le k w (by omega))
    rw [e, Nat.add_mul, Nat.one_mul]
    have h3 : mS I ^ n * 12 = 12 * mS I ^ n := Nat.mul_comm _ _
    omega
def HX10_lossSum_10 (E : aE) (P : Int64 → hI_ → hJ_ → Prop) (v2 : Int32) (v3 : Int64) (v5 : Int32) (I : hI_) (J : hJ_) : Prop := V E mX10_lossSum (kJ SH P) 10 [.ref 42, .retAddr 0, .int v2, .long v3, .retAddr 0, .int v5] [] (SH, I, J) (0, 0)
set_option maxHeartbeats 4000000 in
set_option maxRecDepth 20000 in
theorem wX10_lossSum {E : aE} {P : Int64 → hI_ → hJ_ → Prop} {I : hI_} {J : hJ_} {a0 : Int32} {a1 : Int32} (k : CallV E mX10_walk [.ref 42, .int a0] SH I J (fun I2 J3 => HX10_lossSum_10 E P a1 (0 : Int64) (0 : Int32) I2 J3)) : CallJ E mX10_lossSum [.ref 42, .int a0, .int a1] SH I J P := by
  refine Call_of (L := [.ref 42, .int a0, .int a1, .retAddr 0, .retAddr 0, .retAddr 0]) ok_X10_lossSum.1 rfl rfl ?_
  refine V_aload_n dX10_lossSum_0 rfl ?_
  refine V_iload_n dX10_lossSum_1 rfl ?_
  refine U_callV0 [.int a0] dX10_lossSum_2 ov_X10_44 s_42 rfl ⟨rfl, rfl, rfl⟩ rfl rfl rfl (CallV_mono k (fun I2 J3 k => ?_))
  refine V_lconst (v := (0 : Int64)) dX10_lossSum_5 rfl ?_
  refine U_lstore_n (L2 := [.ref 42, .int a0, .int a1, .long (0 : Int64), .retAddr 0, .retAddr 0]) dX10_lossSum_6 (by decide) rfl ?_
  refine V_iconst (v := (0 : Int32)) dX10_lossSum_7 rfl ?_
  refine U_istore (L2 := [.ref 42, .int a0, .int a1, .long (0 : Int64), .retAddr 0, .int (0 : Int32)]) dX10_lossSum_8 (by decide) rfl ?_
  exact V_wk (wk_eq (wk_j (wk_eq (wk_eq (wk_j (wk_eq (wk_nil))))))) k
set_option maxHeartbeats 4000000 in
set_option maxRecDepth 20000 in
theorem wX10_lossSum_10 {E : aE} {P : Int64 → hI_ → hJ_ → Prop} {I : hI_} {J : hJ_} {v2 : Int32} {v3 : Int64} {v5 : Int32} (k : (((25 : Int32) ≤ v5 → P v3 I J) ∧ (¬ ((25 : Int32) ≤ v5) → (vp_in v5 25) ∧ HX10_lossSum_10 E P v2 (v3 + ((J 43 v5.toNatClampNeg) * ((jmax (0 : Int32) ((jabs (v5 - (12 : Int32))) - v2)).toInt64))) (v5 + (1 : Int32)) I J))) : HX10_lossSum_10 E P v2 v3 v5 I J := by
  show V E mX10_lossSum (kJ SH P) 10 [.ref 42, .retAddr 0, .int v2, .long v3, .retAddr 0, .int v5] [] (SH, I, J) (0, 0)
  refine V_iload dX10_lossSum_10 rfl ?_
  refine V_bipush (v := (25 : Int32)) dX10_lossSum_12 rfl ?_
  refine V_icmp_ge dX10_lossSum_14 (fun c1 => ?_) (fun c1 => ?_)
  · have k := k.1 c1
    refine V_lload_n dX10_lossSum_49 rfl ?_
    exact V_lret dX10_lossSum_50 rfl rfl rfl ⟨_, _, _, rfl, rfl, k⟩
  · have k := k.2 c1
    refine V_lload_n dX10_lossSum_17 rfl ?_
    refine V_aload_n dX10_lossSum_18 rfl ?_
    refine U_getR dX10_lossSum_19 fl_X10_11 s_42 rfl ?_
    refine V_iload dX10_lossSum_22 rfl ?_
    obtain ⟨hb2, k⟩ := k
    refine U_lald dX10_lossSum_24 s_43 hb2 ?_
    refine V_iconst (v := (0 : Int32)) dX10_lossSum_25 rfl ?_
    refine V_iload dX10_lossSum_26 rfl ?_
    refine V_bipush (v := (12 : Int32)) dX10_lossSum_28 rfl ?_
    refine V_isub dX10_lossSum_30 ?_
    refine V_mabs dX10_lossSum_31 om_X10_48 rfl ?_
    refine V_iload_n dX10_lossSum_34 rfl ?_
    refine V_isub dX10_lossSum_35 ?_
    refine V_mmax dX10_lossSum_36 om_X10_54 rfl ?_
    refine V_i2l dX10_lossSum_39 ?_
    refine V_lmul dX10_lossSum_40 ?_
    refine V_ladd dX10_lossSum_41 ?_
    refine U_lstore_n (L2 := [.ref 42, .retAddr 0, .int v2, .long (v3 + ((J 43 v5.toNatClampNeg) * ((jmax (0 : Int32) ((jabs (v5 - (12 : Int32))) - v2)).toInt64))), .retAddr 0, .int v5]) dX10_lossSum_42 (by decide) rfl ?_
    refine U_iinc (v := v5 + (1 : Int32)) (L2 := [.ref 42, .retAddr 0, .int v2, .long (v3 + ((J 43 v5.toNatClampNeg) * ((jmax (0 : Int32) ((jabs (v5 - (12 : Int32))) - v2)).toInt64))), .retAddr 0, .int (v5 + (1 : Int32))]) dX10_lossSum_43 (by decide) rfl rfl rfl ?_
    refine V_goto dX10_lossSum_46 ?_
    exact k
def HX12_lossOf_11 (E : aE) (P : Int64 → hI_ → hJ_ → Prop) (v2 : Int32) (v3 : Int64) (v5 : Int32) (I : hI_) (J : hJ_) : Prop := V E mX12_lossOf (kJ SH P) 11 [.ref 68, .retAddr 0, .int v2, .long v3, .retAddr 0, .int v5, .retAddr 0] [] (SH, I, J) (0, 0)
set_option maxHeartbeats 4000000 in
set_option maxRecDepth 20000 in
theorem wX12_lossOf {E : aE} {P : Int64 → hI_ → hJ_ → Prop} {I : hI_} {J : hJ_} {a0 : Int32} {a1 : Int32} (k : CallV E mX12_layWalks [.ref 68, .int a0] SH I J (fun I2 J3 => HX12_lossOf_11 E P a1 (0 : Int64) (-12 : Int32) I2 J3)) : CallJ E mX12_lossOf [.ref 68, .int a0, .int a1] SH I J P := by
  refine Call_of (L := [.ref 68, .int a0, .int a1, .retAddr 0, .retAddr 0, .retAddr 0, .retAddr 0]) ok_X12_lossOf.1 rfl rfl ?_
  refine V_aload_n dX12_lossOf_0 rfl ?_
  refine V_iload_n dX12_lossOf_1 rfl ?_
  refine U_callV0 [.int a0] dX12_lossOf_2 ov_X12_288 s_68 rfl ⟨rfl, rfl, rfl⟩ rfl rfl rfl (CallV_mono k (fun I2 J3 k => ?_))
  refine V_lconst (v := (0 : Int64)) dX12_lossOf_5 rfl ?_
  refine U_lstore_n (L2 := [.ref 68, .int a0, .int a1, .long (0 : Int64), .retAddr 0, .retAddr 0, .retAddr 0]) dX12_lossOf_6 (by decide) rfl ?_
  refine V_bipush (v := (-12 : Int32)) dX12_lossOf_7 rfl ?_
  refine U_istore (L2 := [.ref 68, .int a0, .int a1, .long (0 : Int64), .retAddr 0, .int (-12 : Int32), .retAddr 0]) dX12_lossOf_9 (by decide) rfl ?_
  exact V_wk (wk_eq (wk_j (wk_eq (wk_eq (wk_j (wk_eq (wk_j (wk_nil)))))))) k
set_option maxHeartbeats 4000000 in
set_option maxRecDepth 20000 in
theorem wX12_lossOf_11 {E : aE} {P : Int64 → hI_ → hJ_ → Prop} {I : hI_} {J : hJ_} {v2 : Int32} {v3 : Int64} {v5 : Int32} (k : (((12 : Int32) < v5 → P v3 I J) ∧ (¬ ((12 : Int32) < v5) → ((¬ (((if (0 : Int32) ≤ v5 then v5 else (-v5)) - v2) ≤ (0 : Int32))) → vp_in ((12 : Int32) + v5) 25) ∧ HX12_lossOf_11 E P v2 (v3 + (if ((if (0 : Int32) ≤ v5 then v5 else (-v5)) - v2) ≤ (0 : Int32) then (0 : Int64) else ((((if (0 : Int32) ≤ v5 then v5 else (-v5)) - v2).toInt64) * (J 88 ((12 : Int32) + v5).toNatClampNeg)))) (v5 + (1 : Int32)) I J))) : HX12_lossOf_11 E P v2 v3 v5 I J := by
  show V E mX12_lossOf (kJ SH P) 11 [.ref 68, .retAddr 0, .int v2, .long v3, .retAddr 0, .int v5, .retAddr 0] [] (SH, I, J) (0, 0)
  refine V_iload dX12_lossOf_11 rfl ?_
  refine V_bipush (v := (12 : Int32)) dX12_lossOf_13 rfl ?_
  refine V_icmp_gt dX12_lossOf_15 (fun c1 => ?_) (fun c1 => ?_)
  · have k := k.1 c1
    refine V_lload_n dX12_lossOf_67 rfl ?_
    exact V_lret dX12_lossOf_68 rfl rfl rfl ⟨_, _, _, rfl, rfl, k⟩
  · have k := k.2 c1
    refine V_iload dX12_lossOf_18 rfl ?_
    have key2 : ∀ (y2003 : Int32), y2003 = (if (0 : Int32) ≤ v5 then v5 else (-v5)) → V E mX12_lossOf (kJ SH P) 31 [.ref 68, .retAddr 0, .int v2, .long v3, .retAddr 0, .int v5, .retAddr 0] [.int y2003] (SH, I, J) (0, 0) := by
      intro y2003 ey2003
      subst ey2003
      refine V_iload_n dX12_lossOf_31 rfl ?_
      refine V_isub dX12_lossOf_32 ?_
      refine U_istore (L2 := [.ref 68, .retAddr 0, .int v2, .long v3, .retAddr 0, .int v5, .int ((if (0 : Int32) ≤ v5 then v5 else (-v5)) - v2)]) dX12_lossOf_33 (by decide) rfl ?_
      refine V_lload_n dX12_lossOf_35 rfl ?_
      refine V_iload dX12_lossOf_36 rfl ?_
      obtain ⟨hc4007, k⟩ := k
      have key2004 : ∀ (y4006 : Int64), y4006 = (if ((if (0 : Int32) ≤ v5 then v5 else (-v5)) - v2) ≤ (0 : Int32) then (0 : Int64) else ((((if (0 : Int32) ≤ v5 then v5 else (-v5)) - v2).toInt64) * (J 88 ((12 : Int32) + v5).toNatClampNeg))) → V E mX12_lossOf (kJ SH P) 59 [.ref 68, .retAddr 0, .int v2, .long v3, .retAddr 0, .int v5, .int ((if (0 : Int32) ≤ v5 then v5 else (-v5)) - v2)] [.long y4006, .long v3] (SH, I, J) (0, 0) := by
        intro y4006 ey4006
        subst ey4006
        refine V_ladd dX12_lossOf_59 ?_
        refine U_lstore_n (L2 := [.ref 68, .retAddr 0, .int v2, .long (v3 + (if ((if (0 : Int32) ≤ v5 then v5 else (-v5)) - v2) ≤ (0 : Int32) then (0 : Int64) else ((((if (0 : Int32) ≤ v5 then v5 else (-v5)) - v2).toInt64) * (J 88 ((12 : Int32) + v5).toNatClampNeg)))), .retAddr 0, .int v5, .int ((if (0 : Int32) ≤ v5 then v5 else (-v5)) - v2)]) dX12_lossOf_60 (by decide) rfl ?_
        refine U_iinc (v := v5 + (1 : Int32)) (L2 := [.ref 68, .retAddr 0, .int v2, .long (v3 + (if ((if (0 : Int32) ≤ v5 then v5 else (-v5)) - v2) ≤ (0 : Int32) then (0 : Int64) else ((((if (0 : Int32) ≤ v5 then v5 else (-v5)) - v2).toInt64) * (J 88 ((12 : Int32) + v5).toNatClampNeg)))), .retAddr 0, .int (v5 + (1 : Int32)), .int ((if (0 : Int32) ≤ v5 then v5 else (-v5)) - v2)]) dX12_lossOf_61 (by decide) rfl rfl rfl ?_
        refine V_goto dX12_lossOf_64 ?_
        exact V_wk (wk_eq (wk_j (wk_eq (wk_eq (wk_j (wk_eq (wk_j (wk_nil)))))))) k
      refine V_if_le dX12_lossOf_38 (fun c4008 => ?_) (fun c4008 => ?_)
      · refine V_lconst (v := (0 : Int64)) dX12_lossOf_58 rfl ?_
        exact key2004 _ (by rw [if_pos c4008])
      · refine V_iload dX12_lossOf_41 rfl ?_
        refine V_i2l dX12_lossOf_43 ?_
        refine V_aload_n dX12_lossOf_44 rfl ?_
        refine U_getR dX12_lossOf_45 fl_X12_68 s_68 rfl ?_
        refine V_bipush (v := (12 : Int32)) dX12_lossOf_48 rfl ?_
        refine V_iload dX12_lossOf_50 rfl ?_
        refine V_iadd dX12_lossOf_52 ?_
        have hb4005 := hc4007 c4008
        refine U_lald dX12_lossOf_53 s_88 hb4005 ?_
        refine V_lmul dX12_lossOf_54 ?_
        refine V_goto dX12_lossOf_55 ?_
        exact key2004 _ (by rw [if_neg c4008])
    refine V_if_ge dX12_lossOf_20 (fun c4009 => ?_) (fun c4009 => ?_)
    · refine V_iload dX12_lossOf_29 rfl ?_
      exact key2 _ (by rw [if_pos c4009])
    · refine V_iload dX12_lossOf_23 rfl ?_
      refine V_ineg dX12_lossOf_25 ?_
      refine V_goto dX12_lossOf_26 ?_
      exact key2 _ (by rw [if_neg c4009])
theorem lossX_loop {E : aE} {P : Int64 → hI_ → hJ_ → Prop} {I : hI_} {J : hJ_} {n w : Nat} (h : Rel I) (hw : w ≤ 12) (h43 : ∀ q, q < 25 → J 43 q = cn I n q) (k : P (lN (lsN I n w 25)) I J) : ∀ (m x : Nat), x + m = 25 → HX10_lossSum_10 E P (nI w) (lN (lsN I n w x)) (nI x) I J
  | 0, x, hx => by
    have e : x = 25 := by omega
    subst e
    exact wX10_lossSum_10 ⟨fun _ => k, fun z => absurd (Int32.le_refl _) z⟩
  | m + 1, x, hx => by
    obtain ⟨a, -⟩ := off_all (k := x) (w := w) (by omega) hw
    have ho := off_le x w (by omega)
    refine wX10_lossSum_10 ⟨fun z => absurd z (nI_ge (b := 25) (by omega) (by omega)), fun _ => ⟨vp_in_nI (by omega) (by omega), ?_⟩⟩
    rw [a, nI_clamp (by omega), h43 x (by omega), cn_N h, nI_l (by omega), lN_mul, lN_add, nI_1]
    exact lossX_loop h hw h43 k m (x + 1) (by omega)
theorem tX10_lossSum {E : aE} {P : Int64 → hI_ → hJ_ → Prop} {I : hI_} {J : hJ_} {n w : Nat} (h : Rel I) (hn : n ≤ 12) (hw : w ≤ 12) (k : ∀ J2, P (lN (lsN I n w 25)) I J2) : CallJ E mX10_lossSum [.ref 42, .int (nI n), .int (nI w)] SH I J P := wX10_lossSum (tX10_walk h hn (fun J2 h43 => lossX_loop h hw h43 (k J2) 25 0 (by omega)))
theorem lossM_loop {E : aE} {P : Int64 → hI_ → hJ_ → Prop} {I : hI_} {J : hJ_} {n w : Nat} (h : Rel I) (hw : w ≤ 12) (h88 : ∀ q, q < 25 → J 88 q = cn I n q) (k : P (lN (lsN I n w 25)) I J) : ∀ (m x : Nat), x + m = 25 → HX12_lossOf_11 E P (nI w) (lN (lsN I n w x)) (nI x - 12) I J
  | 0, x, hx => by
    have e : x = 25 := by omega
    subst e
    exact wX12_lossOf_11 ⟨fun _ => k, fun z => absurd (show (12 : Int32) < nI 25 - 12 by decide) z⟩
  | m + 1, x, hx => by
    obtain ⟨-, b, c, d, e, f⟩ := off_all (k := x) (w := w) (by omega) hw
    have ho := off_le x w (by omega)
    refine wX12_lossOf_11 ⟨fun z => absurd z e, fun _ => ?_⟩
    rw [d, f]
    refine ⟨fun _ => vp_in_nI (by omega) (by omega), ?_⟩
    have := lossM_loop (E := E) h hw h88 k m (x + 1) (by omega)
    have e1 : lsN I n w (x + 1) = lsN I n w x + cN I n x * offN x w := rfl
    rw [e1] at this
    by_cases z : offN x w = 0
    · rw [if_pos (b.mpr z)]
      rw [z, Nat.mul_zero, Nat.add_zero] at this
      rw [Int64.add_zero]; exact this
    · rw [if_neg (fun q => z (b.mp q)), c (by omega), nI_clamp (by omega), h88 x (by omega), cn_N h, nI_l (by omega), lN_mul, lN_add, Nat.mul_comm (offN x w)]
      exact this
theorem tX12_lossOf {E : aE} {P : Int64 → hI_ → hJ_ → Prop} {I : hI_} {J : hJ_} {n w : Nat} (h : Rel I) (hn : n ≤ 12) (hw : w ≤ 12) (k : ∀ J2, J2 68 32 = lN (mS I ^ n) → P (lN (lsN I n w 25)) I J2) : CallJ E mX12_lossOf [.ref 68, .int (nI n), .int (nI w)] SH I J P := wX12_lossOf (tX12_layWalks hn (fun J2 h88 hp => lossM_loop h hw h88 (k J2 (by rw [hp, pw_N h])) 25 0 (by omega)))
set_option maxHeartbeats 4000000 in
set_option maxRecDepth 20000 in
theorem wX11_loss {E : aE} {P : Int64 → hI_ → hJ_ → Prop} {I : hI_} {J : hJ_} {a0 : Int32} {a1 : Int32} {a2 : Int32} (k : ((¬ (0 ≤ a0 ∧ a0 ≤ 12) → P (-1 : Int64) I J) ∧ ((0 ≤ a0 ∧ a0 ≤ 12) → ((¬ ((0 : Int32) ≤ a1 ∧ a1 ≤ (12 : Int32)) → P (-1 : Int64) I J) ∧ (((0 : Int32) ≤ a1 ∧ a1 ≤ (12 : Int32)) → ((((0 : Int32) ≤ a2 ∧ a2 ≤ (1 : Int32)) → CallJ E mX10_lossSum [.ref 42, .int a0, .int a1] SH I J (fun x4 I5 J6 => CallJ E mX10_power [.ref 42, .int a0] SH I5 J6 (fun x7 I8 J9 => CallJ E mX10_inLowestTerms [.long x4, .long x7, .int a2] SH I8 J9 (fun x10 I11 J12 => P x10 I11 J12)))) ∧ (¬ (((0 : Int32) ≤ a2 ∧ a2 ≤ (1 : Int32))) → P (-1 : Int64) I J))))))) : CallJ E mX11_loss [.ref 0, .int a0, .int a1, .int a2] SH I J P := by
  refine Call_of (L := [.ref 0, .int a0, .int a1, .int a2]) ok_X11_loss.1 rfl rfl ?_
  refine V_iload_n dX11_loss_0 rfl ?_
  refine U_callS1 [.int a0] dX11_loss_1 os_X11_287 ⟨rfl, rfl, rfl⟩ rfl rfl rfl (tX11_isAge ?_)
  refine U_ifb_eq dX11_loss_4 (fun c1 => ?_) (fun c1 => ?_)
  · have k := k.1 c1
    refine V_ldc2_w (v := (-1 : Int64)) dX11_loss_26 (gt_4 178 rfl rfl) ?_
    exact V_lret dX11_loss_29 rfl rfl rfl ⟨_, _, _, rfl, rfl, k⟩
  · have k := k.2 c1
    refine V_iload_n dX11_loss_7 rfl ?_
    refine V_iconst (v := (0 : Int32)) dX11_loss_8 rfl ?_
    refine V_bipush (v := (12 : Int32)) dX11_loss_9 rfl ?_
    refine U_callS1 [.int a1, .int (0 : Int32), .int (12 : Int32)] dX11_loss_11 os_X11_104 ⟨rfl, rfl, rfl⟩ rfl rfl rfl (tX11_within ?_)
    refine U_ifb_eq dX11_loss_14 (fun c2 => ?_) (fun c2 => ?_)
    · have k := k.1 c2
      refine V_ldc2_w (v := (-1 : Int64)) dX11_loss_26 (gt_4 178 rfl rfl) ?_
      exact V_lret dX11_loss_29 rfl rfl rfl ⟨_, _, _, rfl, rfl, k⟩
    · have k := k.2 c2
      refine V_iload_n dX11_loss_17 rfl ?_
      refine V_iconst (v := (0 : Int32)) dX11_loss_18 rfl ?_
      refine V_iconst (v := (1 : Int32)) dX11_loss_19 rfl ?_
      refine U_callS1 [.int a2, .int (0 : Int32), .int (1 : Int32)] dX11_loss_20 os_X11_104 ⟨rfl, rfl, rfl⟩ rfl rfl rfl (tX11_within ?_)
      refine U_ifb_ne dX11_loss_23 (fun c3 => ?_) (fun c3 => ?_)
      · have k := k.1 c3
        refine V_aload_n dX11_loss_30 rfl ?_
        refine U_getR dX11_loss_31 fl_X11_85 s_0 rfl ?_
        refine V_iload_n dX11_loss_34 rfl ?_
        refine V_iload_n dX11_loss_35 rfl ?_
        refine U_callV2 [.int a0, .int a1] dX11_loss_36 ov_X11_307 s_42 rfl ⟨rfl, rfl, rfl⟩ rfl rfl rfl (CallJ_mono k (fun x4 I5 J6 k => ?_))
        refine V_aload_n dX11_loss_39 rfl ?_
        refine U_getR dX11_loss_40 fl_X11_85 s_0 rfl ?_
        refine V_iload_n dX11_loss_43 rfl ?_
        refine U_callV2 [.int a0] dX11_loss_44 ov_X11_299 s_42 rfl ⟨rfl, rfl, rfl⟩ rfl rfl rfl (CallJ_mono k (fun x7 I8 J9 k => ?_))
        refine V_iload_n dX11_loss_47 rfl ?_
        refine U_callS2 [.long x4, .long x7, .int a2] dX11_loss_48 os_X11_303 ⟨rfl, rfl, rfl⟩ rfl rfl rfl (CallJ_mono k (fun x10 I11 J12 k => ?_))
        exact V_lret dX11_loss_51 rfl rfl rfl ⟨_, _, _, rfl, rfl, k⟩
      · have k := k.2 c3
        refine V_ldc2_w (v := (-1 : Int64)) dX11_loss_26 (gt_4 178 rfl rfl) ?_
        exact V_lret dX11_loss_29 rfl rfl rfl ⟨_, _, _, rfl, rfl, k⟩
set_option maxHeartbeats 4000000 in
set_option maxRecDepth 20000 in
theorem wX12_loss {E : aE} {P : Int64 → hI_ → hJ_ → Prop} {I : hI_} {J : hJ_} {a0 : Int32} {a1 : Int32} {a2 : Int32} (k : ((¬ ((0 : Int32) ≤ a0 ∧ a0 ≤ (12 : Int32)) → P (-1 : Int64) I J) ∧ (((0 : Int32) ≤ a0 ∧ a0 ≤ (12 : Int32)) → ((¬ ((0 : Int32) ≤ a1 ∧ a1 ≤ (12 : Int32)) → P (-1 : Int64) I J) ∧ (((0 : Int32) ≤ a1 ∧ a1 ≤ (12 : Int32)) → ((((0 : Int32) ≤ a2 ∧ a2 ≤ (1 : Int32)) → CallJ E mX12_lossOf [.ref 68, .int a0, .int a1] SH I J (fun x4 I5 J6 => CallJ E mX12_lowest [.long x4, .long (J6 68 32), .int a2] SH I5 J6 (fun x7 I8 J9 => P x7 I8 J9))) ∧ (¬ (((0 : Int32) ≤ a2 ∧ a2 ≤ (1 : Int32))) → P (-1 : Int64) I J))))))) : CallJ E mX12_loss [.ref 68, .int a0, .int a1, .int a2] SH I J P := by
  refine Call_of (L := [.ref 68, .int a0, .int a1, .int a2, .retAddr 0, .retAddr 0]) ok_X12_loss.1 rfl rfl ?_
  refine V_iload_n dX12_loss_0 rfl ?_
  refine V_i2l dX12_loss_1 ?_
  refine V_lconst (v := (0 : Int64)) dX12_loss_2 rfl ?_
  refine V_ldc2_w (v := (12 : Int64)) dX12_loss_3 (gt_6 221 rfl rfl) ?_
  refine U_callS1 [.long a0.toInt64, .long (0 : Int64), .long (12 : Int64)] dX12_loss_6 os_X12_91 ⟨rfl, rfl, rfl⟩ rfl rfl rfl (tX12_in32 (v := a0) (lo := (0 : Int32)) (hi := (12 : Int32)) rfl (by decide) (by decide) ?_)
  refine U_ifb_eq dX12_loss_9 (fun c1 => ?_) (fun c1 => ?_)
  · have k := k.1 c1
    refine V_ldc2_w (v := (-1 : Int64)) dX12_loss_34 (gt_6 223 rfl rfl) ?_
    exact V_lret dX12_loss_37 rfl rfl rfl ⟨_, _, _, rfl, rfl, k⟩
  · have k := k.2 c1
    refine V_iload_n dX12_loss_12 rfl ?_
    refine V_i2l dX12_loss_13 ?_
    refine V_lconst (v := (0 : Int64)) dX12_loss_14 rfl ?_
    refine V_ldc2_w (v := (12 : Int64)) dX12_loss_15 (gt_6 221 rfl rfl) ?_
    refine U_callS1 [.long a1.toInt64, .long (0 : Int64), .long (12 : Int64)] dX12_loss_18 os_X12_91 ⟨rfl, rfl, rfl⟩ rfl rfl rfl (tX12_in32 (v := a1) (lo := (0 : Int32)) (hi := (12 : Int32)) rfl (by decide) (by decide) ?_)
    refine U_ifb_eq dX12_loss_21 (fun c2 => ?_) (fun c2 => ?_)
    · have k := k.1 c2
      refine V_ldc2_w (v := (-1 : Int64)) dX12_loss_34 (gt_6 223 rfl rfl) ?_
      exact V_lret dX12_loss_37 rfl rfl rfl ⟨_, _, _, rfl, rfl, k⟩
    · have k := k.2 c2
      refine V_iload_n dX12_loss_24 rfl ?_
      refine V_i2l dX12_loss_25 ?_
      refine V_lconst (v := (0 : Int64)) dX12_loss_26 rfl ?_
      refine V_lconst (v := (1 : Int64)) dX12_loss_27 rfl ?_
      refine U_callS1 [.long a2.toInt64, .long (0 : Int64), .long (1 : Int64)] dX12_loss_28 os_X12_91 ⟨rfl, rfl, rfl⟩ rfl rfl rfl (tX12_in32 (v := a2) (lo := (0 : Int32)) (hi := (1 : Int32)) rfl (by decide) (by decide) ?_)
      refine U_ifb_ne dX12_loss_31 (fun c3 => ?_) (fun c3 => ?_)
      · have k := k.1 c3
        refine V_aload_n dX12_loss_38 rfl ?_
        refine V_iload_n dX12_loss_39 rfl ?_
        refine V_iload_n dX12_loss_40 rfl ?_
        refine U_callV2 [.int a0, .int a1] dX12_loss_41 ov_X12_295 s_68 rfl ⟨rfl, rfl, rfl⟩ rfl rfl rfl (CallJ_mono k (fun x4 I5 J6 k => ?_))
        refine U_lstore (L2 := [.ref 68, .int a0, .int a1, .int a2, .long x4, .retAddr 0]) dX12_loss_44 (by decide) rfl ?_
        refine V_lload dX12_loss_46 rfl ?_
        refine V_aload_n dX12_loss_48 rfl ?_
        refine U_getJ dX12_loss_49 fl_X12_278 s_68 rfl ?_
        refine V_iload_n dX12_loss_52 rfl ?_
        refine U_callS2 [.long x4, .long (J6 68 32), .int a2] dX12_loss_53 os_X12_291 ⟨rfl, rfl, rfl⟩ rfl rfl rfl (CallJ_mono k (fun x7 I8 J9 k => ?_))
        exact V_lret dX12_loss_56 rfl rfl rfl ⟨_, _, _, rfl, rfl, k⟩
      · have k := k.2 c3
        refine V_ldc2_w (v := (-1 : Int64)) dX12_loss_34 (gt_6 223 rfl rfl) ?_
        exact V_lret dX12_loss_37 rfl rfl rfl ⟨_, _, _, rfl, rfl, k⟩
theorem ls_b {I : hI_} (h : Rel I) {n w : Nat} (hn : n ≤ 12) : lsN I n w 25 ≤ 300 * mS I ^ n ∧ lsN I n w 25 ≤ 2674830134476800 := by
  have h1 := lsN_le (I := I) (n := n) (w := w) 25 (Nat.le_refl _)
  have h2 := (mS_pow h hn).2
  omega
theorem op_loss {E : aE} {I : hI_} {J : hJ_} {P : hI_ → hJ_ → Prop} {a0 a1 a2 : Int32} (h : Rel I) (hP : ∀ I2 J2, Rel I2 → P I2 J2) : Op2J E mX11_loss mX12_loss [.int a0, .int a1, .int a2] I J P := by
  have kI := hP I J h
  refine wX11_loss ⟨fun c1 => wX12_loss ⟨fun _ => ⟨rfl, kI⟩, fun d => absurd d c1⟩, fun c1 => ⟨fun c2 => wX12_loss ⟨fun _ => ⟨rfl, kI⟩, fun _ => ⟨fun _ => ⟨rfl, kI⟩, fun d => absurd d c2⟩⟩, fun c2 => ⟨fun c3 => ?_, fun c3 => wX12_loss ⟨fun _ => ⟨rfl, kI⟩, fun _ => ⟨fun _ => ⟨rfl, kI⟩, fun _ => ⟨fun d => absurd d c3, fun _ => ⟨rfl, kI⟩⟩⟩⟩⟩⟩⟩
  obtain ⟨n, hn, rfl⟩ := in_le (n := 12) rfl c1
  obtain ⟨w, hw, rfl⟩ := in_le (n := 12) rfl c2
  have hp := mS_pow h hn
  have hl := ls_b h (n := n) (w := w) hn
  have ab : isAbs (lN (lsN I n w 25)) (lsN I n w 25) := ⟨by omega, Or.inl rfl⟩
  refine tX10_lossSum h hn hw (fun J2 => tX10_power h hn ?_)
  rw [pw_N h]
  refine tX10_low ab hp.1 (by omega) ?_
  refine wX12_loss ⟨fun d => absurd c1 d, fun _ => ⟨fun d => absurd c2 d, fun _ => ⟨fun _ => ?_, fun d => absurd c3 d⟩⟩⟩
  refine tX12_lossOf h hn hw (fun J3 hpw => ?_)
  rw [hpw]
  exact tX12_low ab hp.1 (by omega) ⟨rfl, hP _ _ h⟩
set_option maxHeartbeats 4000000 in
set_option maxRecDepth 20000 in
theorem wX11_near {E : aE} {P : Int64 → hI_ → hJ_ → Prop} {I : hI_} {J : hJ_} {a0 : Int32} {a1 : Int32} {a2 : Int32} {a3 : Int32} (k : ((¬ (0 ≤ a0 ∧ a0 ≤ 12) → P (-1 : Int64) I J) ∧ ((0 ≤ a0 ∧ a0 ≤ 12) → ((¬ ((0 : Int32) ≤ a1 ∧ a1 ≤ a0) → P (-1 : Int64) I J) ∧ (((0 : Int32) ≤ a1 ∧ a1 ≤ a0) → ((¬ ((0 : Int32) ≤ a2 ∧ a2 ≤ (12 : Int32)) → P (-1 : Int64) I J) ∧ (((0 : Int32) ≤ a2 ∧ a2 ≤ (12 : Int32)) → ((((0 : Int32) ≤ a3 ∧ a3 ≤ (1 : Int32)) → CallJ E mX10_lossSum [.ref 42, .int a0, .int a2] SH I J (fun x5 I6 J7 => CallJ E mX10_lossSum [.ref 42, .int a1, .int a2] SH I6 J7 (fun x8 I9 J10 => CallJ E mX10_power [.ref 42, .int (a0 - a1)] SH I9 J10 (fun x11 I12 J13 => CallJ E mX10_power [.ref 42, .int a0] SH I12 J13 (fun x14 I15 J16 => CallJ E mX10_inLowestTerms [.long (x5 - (x8 * x11)), .long x14, .int a3] SH I15 J16 (fun x17 I18 J19 => P x17 I18 J19)))))) ∧ (¬ (((0 : Int32) ≤ a3 ∧ a3 ≤ (1 : Int32))) → P (-1 : Int64) I J))))))))) : CallJ E mX11_near [.ref 0, .int a0, .int a1, .int a2, .int a3] SH I J P := by
  refine Call_of (L := [.ref 0, .int a0, .int a1, .int a2, .int a3, .retAddr 0, .retAddr 0]) ok_X11_near.1 rfl rfl ?_
  refine V_iload_n dX11_near_0 rfl ?_
  refine U_callS1 [.int a0] dX11_near_1 os_X11_287 ⟨rfl, rfl, rfl⟩ rfl rfl rfl (tX11_isAge ?_)
  refine U_ifb_eq dX11_near_4 (fun c1 => ?_) (fun c1 => ?_)
  · have k := k.1 c1
    refine V_ldc2_w (v := (-1 : Int64)) dX11_near_36 (gt_4 178 rfl rfl) ?_
    exact V_lret dX11_near_39 rfl rfl rfl ⟨_, _, _, rfl, rfl, k⟩
  · have k := k.2 c1
    refine V_iload_n dX11_near_7 rfl ?_
    refine V_iconst (v := (0 : Int32)) dX11_near_8 rfl ?_
    refine V_iload_n dX11_near_9 rfl ?_
    refine U_callS1 [.int a1, .int (0 : Int32), .int a0] dX11_near_10 os_X11_104 ⟨rfl, rfl, rfl⟩ rfl rfl rfl (tX11_within ?_)
    refine U_ifb_eq dX11_near_13 (fun c2 => ?_) (fun c2 => ?_)
    · have k := k.1 c2
      refine V_ldc2_w (v := (-1 : Int64)) dX11_near_36 (gt_4 178 rfl rfl) ?_
      exact V_lret dX11_near_39 rfl rfl rfl ⟨_, _, _, rfl, rfl, k⟩
    · have k := k.2 c2
      refine V_iload_n dX11_near_16 rfl ?_
      refine V_iconst (v := (0 : Int32)) dX11_near_17 rfl ?_
      refine V_bipush (v := (12 : Int32)) dX11_near_18 rfl ?_
      refine U_callS1 [.int a2, .int (0 : Int32), .int (12 : Int32)] dX11_near_20 os_X11_104 ⟨rfl, rfl, rfl⟩ rfl rfl rfl (tX11_within ?_)
      refine U_ifb_eq dX11_near_23 (fun c3 => ?_) (fun c3 => ?_)
      · have k := k.1 c3
        refine V_ldc2_w (v := (-1 : Int64)) dX11_near_36 (gt_4 178 rfl rfl) ?_
        exact V_lret dX11_near_39 rfl rfl rfl ⟨_, _, _, rfl, rfl, k⟩
      · have k := k.2 c3
        refine V_iload dX11_near_26 rfl ?_
        refine V_iconst (v := (0 : Int32)) dX11_near_28 rfl ?_
        refine V_iconst (v := (1 : Int32)) dX11_near_29 rfl ?_
        refine U_callS1 [.int a3, .int (0 : Int32), .int (1 : Int32)] dX11_near_30 os_X11_104 ⟨rfl, rfl, rfl⟩ rfl rfl rfl (tX11_within ?_)
        refine U_ifb_ne dX11_near_33 (fun c4 => ?_) (fun c4 => ?_)
        · have k := k.1 c4
          refine V_aload_n dX11_near_40 rfl ?_
          refine U_getR dX11_near_41 fl_X11_85 s_0 rfl ?_
          refine V_iload_n dX11_near_44 rfl ?_
          refine V_iload_n dX11_near_45 rfl ?_
          refine U_callV2 [.int a0, .int a2] dX11_near_46 ov_X11_307 s_42 rfl ⟨rfl, rfl, rfl⟩ rfl rfl rfl (CallJ_mono k (fun x5 I6 J7 k => ?_))
          refine V_aload_n dX11_near_49 rfl ?_
          refine U_getR dX11_near_50 fl_X11_85 s_0 rfl ?_
          refine V_iload_n dX11_near_53 rfl ?_
          refine V_iload_n dX11_near_54 rfl ?_
          refine U_callV2 [.int a1, .int a2] dX11_near_55 ov_X11_307 s_42 rfl ⟨rfl, rfl, rfl⟩ rfl rfl rfl (CallJ_mono k (fun x8 I9 J10 k => ?_))
          refine V_aload_n dX11_near_58 rfl ?_
          refine U_getR dX11_near_59 fl_X11_85 s_0 rfl ?_
          refine V_iload_n dX11_near_62 rfl ?_
          refine V_iload_n dX11_near_63 rfl ?_
          refine V_isub dX11_near_64 ?_
          refine U_callV2 [.int (a0 - a1)] dX11_near_65 ov_X11_299 s_42 rfl ⟨rfl, rfl, rfl⟩ rfl rfl rfl (CallJ_mono k (fun x11 I12 J13 k => ?_))
          refine V_lmul dX11_near_68 ?_
          refine V_lsub dX11_near_69 ?_
          refine U_lstore (L2 := [.ref 0, .int a0, .int a1, .int a2, .int a3, .long (x5 - (x8 * x11)), .retAddr 0]) dX11_near_70 (by decide) rfl ?_
          refine V_lload dX11_near_72 rfl ?_
          refine V_aload_n dX11_near_74 rfl ?_
          refine U_getR dX11_near_75 fl_X11_85 s_0 rfl ?_
          refine V_iload_n dX11_near_78 rfl ?_
          refine U_callV2 [.int a0] dX11_near_79 ov_X11_299 s_42 rfl ⟨rfl, rfl, rfl⟩ rfl rfl rfl (CallJ_mono k (fun x14 I15 J16 k => ?_))
          refine V_iload dX11_near_82 rfl ?_
          refine U_callS2 [.long (x5 - (x8 * x11)), .long x14, .int a3] dX11_near_84 os_X11_303 ⟨rfl, rfl, rfl⟩ rfl rfl rfl (CallJ_mono k (fun x17 I18 J19 k => ?_))
          exact V_lret dX11_near_87 rfl rfl rfl ⟨_, _, _, rfl, rfl, k⟩
        · have k := k.2 c4
          refine V_ldc2_w (v := (-1 : Int64)) dX11_near_36 (gt_4 178 rfl rfl) ?_
          exact V_lret dX11_near_39 rfl rfl rfl ⟨_, _, _, rfl, rfl, k⟩
def HX12_near_61 (E : aE) (P : Int64 → hI_ → hJ_ → Prop) (v1 : Int32) (v3 : Int32) (v4 : Int32) (v5 : Int64) (v7 : Int32) (I : hI_) (J : hJ_) : Prop := V E mX12_near (kJ SH P) 61 [.ref 68, .int v1, .retAddr 0, .int v3, .int v4, .long v5, .retAddr 0, .int v7, .retAddr 0] [] (SH, I, J) (0, 0)
set_option maxHeartbeats 4000000 in
set_option maxRecDepth 20000 in
theorem wX12_near {E : aE} {P : Int64 → hI_ → hJ_ → Prop} {I : hI_} {J : hJ_} {a0 : Int32} {a1 : Int32} {a2 : Int32} {a3 : Int32} (k : ((¬ ((0 : Int32) ≤ a0 ∧ a0 ≤ (12 : Int32)) → P (-1 : Int64) I J) ∧ (((0 : Int32) ≤ a0 ∧ a0 ≤ (12 : Int32)) → ((¬ ((0 : Int32) ≤ a1 ∧ a1 ≤ a0) → P (-1 : Int64) I J) ∧ (((0 : Int32) ≤ a1 ∧ a1 ≤ a0) → ((¬ ((0 : Int32) ≤ a2 ∧ a2 ≤ (12 : Int32)) → P (-1 : Int64) I J) ∧ (((0 : Int32) ≤ a2 ∧ a2 ≤ (12 : Int32)) → ((((0 : Int32) ≤ a3 ∧ a3 ≤ (1 : Int32)) → CallJ E mX12_lossOf [.ref 68, .int a1, .int a2] SH I J (fun x5 I6 J7 => HX12_near_61 E P a0 a2 a3 x5 a1 I6 J7)) ∧ (¬ (((0 : Int32) ≤ a3 ∧ a3 ≤ (1 : Int32))) → P (-1 : Int64) I J))))))))) : CallJ E mX12_near [.ref 68, .int a0, .int a1, .int a2, .int a3] SH I J P := by
  refine Call_of (L := [.ref 68, .int a0, .int a1, .int a2, .int a3, .retAddr 0, .retAddr 0, .retAddr 0, .retAddr 0]) ok_X12_near.1 rfl rfl ?_
  refine V_iload_n dX12_near_0 rfl ?_
  refine V_i2l dX12_near_1 ?_
  refine V_lconst (v := (0 : Int64)) dX12_near_2 rfl ?_
  refine V_ldc2_w (v := (12 : Int64)) dX12_near_3 (gt_6 221 rfl rfl) ?_
  refine U_callS1 [.long a0.toInt64, .long (0 : Int64), .long (12 : Int64)] dX12_near_6 os_X12_91 ⟨rfl, rfl, rfl⟩ rfl rfl rfl (tX12_in32 (v := a0) (lo := (0 : Int32)) (hi := (12 : Int32)) rfl (by decide) (by decide) ?_)
  refine U_ifb_eq dX12_near_9 (fun c1 => ?_) (fun c1 => ?_)
  · have k := k.1 c1
    refine V_ldc2_w (v := (-1 : Int64)) dX12_near_46 (gt_6 223 rfl rfl) ?_
    exact V_lret dX12_near_49 rfl rfl rfl ⟨_, _, _, rfl, rfl, k⟩
  · have k := k.2 c1
    refine V_iload_n dX12_near_12 rfl ?_
    refine V_i2l dX12_near_13 ?_
    refine V_lconst (v := (0 : Int64)) dX12_near_14 rfl ?_
    refine V_iload_n dX12_near_15 rfl ?_
    refine V_i2l dX12_near_16 ?_
    refine U_callS1 [.long a1.toInt64, .long (0 : Int64), .long a0.toInt64] dX12_near_17 os_X12_91 ⟨rfl, rfl, rfl⟩ rfl rfl rfl (tX12_in32 (v := a1) (lo := (0 : Int32)) (hi := a0) rfl (by decide) rfl ?_)
    refine U_ifb_eq dX12_near_20 (fun c2 => ?_) (fun c2 => ?_)
    · have k := k.1 c2
      refine V_ldc2_w (v := (-1 : Int64)) dX12_near_46 (gt_6 223 rfl rfl) ?_
      exact V_lret dX12_near_49 rfl rfl rfl ⟨_, _, _, rfl, rfl, k⟩
    · have k := k.2 c2
      refine V_iload_n dX12_near_23 rfl ?_
      refine V_i2l dX12_near_24 ?_
      refine V_lconst (v := (0 : Int64)) dX12_near_25 rfl ?_
      refine V_ldc2_w (v := (12 : Int64)) dX12_near_26 (gt_6 221 rfl rfl) ?_
      refine U_callS1 [.long a2.toInt64, .long (0 : Int64), .long (12 : Int64)] dX12_near_29 os_X12_91 ⟨rfl, rfl, rfl⟩ rfl rfl rfl (tX12_in32 (v := a2) (lo := (0 : Int32)) (hi := (12 : Int32)) rfl (by decide) (by decide) ?_)
      refine U_ifb_eq dX12_near_32 (fun c3 => ?_) (fun c3 => ?_)
      · have k := k.1 c3
        refine V_ldc2_w (v := (-1 : Int64)) dX12_near_46 (gt_6 223 rfl rfl) ?_
        exact V_lret dX12_near_49 rfl rfl rfl ⟨_, _, _, rfl, rfl, k⟩
      · have k := k.2 c3
        refine V_iload dX12_near_35 rfl ?_
        refine V_i2l dX12_near_37 ?_
        refine V_lconst (v := (0 : Int64)) dX12_near_38 rfl ?_
        refine V_lconst (v := (1 : Int64)) dX12_near_39 rfl ?_
        refine U_callS1 [.long a3.toInt64, .long (0 : Int64), .long (1 : Int64)] dX12_near_40 os_X12_91 ⟨rfl, rfl, rfl⟩ rfl rfl rfl (tX12_in32 (v := a3) (lo := (0 : Int32)) (hi := (1 : Int32)) rfl (by decide) (by decide) ?_)
        refine U_ifb_ne dX12_near_43 (fun c4 => ?_) (fun c4 => ?_)
        · have k := k.1 c4
          refine V_aload_n dX12_near_50 rfl ?_
          refine V_iload_n dX12_near_51 rfl ?_
          refine V_iload_n dX12_near_52 rfl ?_
          refine U_callV2 [.int a1, .int a2] dX12_near_53 ov_X12_295 s_68 rfl ⟨rfl, rfl, rfl⟩ rfl rfl rfl (CallJ_mono k (fun x5 I6 J7 k => ?_))
          refine U_lstore (L2 := [.ref 68, .int a0, .int a1, .int a2, .int a3, .long x5, .retAddr 0, .retAddr 0, .retAddr 0]) dX12_near_56 (by decide) rfl ?_
          refine V_iload_n dX12_near_58 rfl ?_
          refine U_istore (L2 := [.ref 68, .int a0, .int a1, .int a2, .int a3, .long x5, .retAddr 0, .int a1, .retAddr 0]) dX12_near_59 (by decide) rfl ?_
          exact V_wk (wk_eq (wk_eq (wk_j (wk_eq (wk_eq (wk_eq (wk_j (wk_eq (wk_j (wk_nil)))))))))) k
        · have k := k.2 c4
          refine V_ldc2_w (v := (-1 : Int64)) dX12_near_46 (gt_6 223 rfl rfl) ?_
          exact V_lret dX12_near_49 rfl rfl rfl ⟨_, _, _, rfl, rfl, k⟩
set_option maxHeartbeats 4000000 in
set_option maxRecDepth 20000 in
theorem wX12_near_61 {E : aE} {P : Int64 → hI_ → hJ_ → Prop} {I : hI_} {J : hJ_} {v1 : Int32} {v3 : Int32} {v4 : Int32} {v5 : Int64} {v7 : Int32} (k : ((v1 ≤ v7 → CallJ E mX12_lossOf [.ref 68, .int v1, .int v3] SH I J (fun x2 I3 J4 => CallJ E mX12_lowest [.long (x2 - v5), .long (J4 68 32), .int v4] SH I3 J4 (fun x5 I6 J7 => P x5 I6 J7))) ∧ (¬ (v1 ≤ v7) → HX12_near_61 E P v1 v3 v4 (v5 * ((((I 73 3) + (I 73 4)) + (I 73 5)).toInt64)) (v7 + (1 : Int32)) I J))) : HX12_near_61 E P v1 v3 v4 v5 v7 I J := by
  show V E mX12_near (kJ SH P) 61 [.ref 68, .int v1, .retAddr 0, .int v3, .int v4, .long v5, .retAddr 0, .int v7, .retAddr 0] [] (SH, I, J) (0, 0)
  refine V_iload dX12_near_61 rfl ?_
  refine V_iload_n dX12_near_63 rfl ?_
  refine V_icmp_ge dX12_near_64 (fun c1 => ?_) (fun c1 => ?_)
  · have k := k.1 c1
    refine V_aload_n dX12_near_99 rfl ?_
    refine V_iload_n dX12_near_100 rfl ?_
    refine V_iload_n dX12_near_101 rfl ?_
    refine U_callV2 [.int v1, .int v3] dX12_near_102 ov_X12_295 s_68 rfl ⟨rfl, rfl, rfl⟩ rfl rfl rfl (CallJ_mono k (fun x2 I3 J4 k => ?_))
    refine V_lload dX12_near_105 rfl ?_
    refine V_lsub dX12_near_107 ?_
    refine U_lstore (L2 := [.ref 68, .int v1, .retAddr 0, .int v3, .int v4, .long v5, .retAddr 0, .long (x2 - v5), .retAddr 0]) dX12_near_108 (by decide) rfl ?_
    refine V_lload dX12_near_110 rfl ?_
    refine V_aload_n dX12_near_112 rfl ?_
    refine U_getJ dX12_near_113 fl_X12_278 s_68 rfl ?_
    refine V_iload dX12_near_116 rfl ?_
    refine U_callS2 [.long (x2 - v5), .long (J4 68 32), .int v4] dX12_near_118 os_X12_291 ⟨rfl, rfl, rfl⟩ rfl rfl rfl (CallJ_mono k (fun x5 I6 J7 k => ?_))
    exact V_lret dX12_near_121 rfl rfl rfl ⟨_, _, _, rfl, rfl, k⟩
  · have k := k.2 c1
    refine V_lload dX12_near_67 rfl ?_
    refine V_aload_n dX12_near_69 rfl ?_
    refine U_getR dX12_near_70 fl_X12_22 s_68 rfl ?_
    refine V_iconst (v := (3 : Int32)) dX12_near_73 rfl ?_
    refine U_ialdx (x := I 73 3) dX12_near_74 s_73 (by unfold vp_in; decide) rfl ?_
    refine V_aload_n dX12_near_75 rfl ?_
    refine U_getR dX12_near_76 fl_X12_22 s_68 rfl ?_
    refine V_iconst (v := (4 : Int32)) dX12_near_79 rfl ?_
    refine U_ialdx (x := I 73 4) dX12_near_80 s_73 (by unfold vp_in; decide) rfl ?_
    refine V_iadd dX12_near_81 ?_
    refine V_aload_n dX12_near_82 rfl ?_
    refine U_getR dX12_near_83 fl_X12_22 s_68 rfl ?_
    refine V_iconst (v := (5 : Int32)) dX12_near_86 rfl ?_
    refine U_ialdx (x := I 73 5) dX12_near_87 s_73 (by unfold vp_in; decide) rfl ?_
    refine V_iadd dX12_near_88 ?_
    refine V_i2l dX12_near_89 ?_
    refine V_lmul dX12_near_90 ?_
    refine U_lstore (L2 := [.ref 68, .int v1, .retAddr 0, .int v3, .int v4, .long (v5 * ((((I 73 3) + (I 73 4)) + (I 73 5)).toInt64)), .retAddr 0, .int v7, .retAddr 0]) dX12_near_91 (by decide) rfl ?_
    refine U_iinc (v := v7 + (1 : Int32)) (L2 := [.ref 68, .int v1, .retAddr 0, .int v3, .int v4, .long (v5 * ((((I 73 3) + (I 73 4)) + (I 73 5)).toInt64)), .retAddr 0, .int (v7 + (1 : Int32)), .retAddr 0]) dX12_near_93 (by decide) rfl rfl rfl ?_
    refine V_goto dX12_near_96 ?_
    exact k
theorem nearM_loop {E : aE} {P : Int64 → hI_ → hJ_ → Prop} {I : hI_} {J : hJ_} {n w L m0 : Nat} {q : Int32} (h : Rel I) (hn : n ≤ 12) (hw : w ≤ 12) (k : CallJ E mX12_lossOf [.ref 68, .int (nI n), .int (nI w)] SH I J (fun x2 I3 J4 => CallJ E mX12_lowest [.long (x2 - lN (L * mS I ^ (n - m0))), .long (J4 68 32), .int q] SH I3 J4 (fun x5 I6 J7 => P x5 I6 J7))) : ∀ (m i : Nat), m0 ≤ i → i + m = n → HX12_near_61 E P (nI n) (nI w) q (lN (L * mS I ^ (i - m0))) (nI i) I J
  | 0, i, hi0, hi => by
    have e : i = n := by omega
    subst e
    exact wX12_near_61 ⟨fun _ => k, fun z => absurd (nI_le (by omega) (by omega)) z⟩
  | m + 1, i, hi0, hi => by
    obtain ⟨h0, h1, h2, -, -, q0, q1, q2⟩ := Rel_m3 h
    refine wX12_near_61 ⟨fun z => absurd z (nI_ge (by omega) (by omega)), fun _ => ?_⟩
    have := nearM_loop h hn hw k m (i + 1) (by omega) (by omega)
    rw [show i + 1 - m0 = (i - m0) + 1 by omega, Nat.pow_succ, ← Nat.mul_assoc] at this
    rw [h0, h1, h2, nI_add, nI_add, nI_l (by omega), lN_mul, nI_1]
    exact this
theorem op_near {E : aE} {I : hI_} {J : hJ_} {P : hI_ → hJ_ → Prop} {a0 a1 a2 a3 : Int32} (h : Rel I) (hP : ∀ I2 J2, Rel I2 → P I2 J2) : Op2J E mX11_near mX12_near [.int a0, .int a1, .int a2, .int a3] I J P := by
  have kI := hP I J h
  refine wX11_near ⟨fun c1 => wX12_near ⟨fun _ => ⟨rfl, kI⟩, fun d => absurd d c1⟩, fun c1 => ⟨fun c2 => wX12_near ⟨fun _ => ⟨rfl, kI⟩, fun _ => ⟨fun _ => ⟨rfl, kI⟩, fun d => absurd d c2⟩⟩, fun c2 => ⟨fun c3 => wX12_near ⟨fun _ => ⟨rfl, kI⟩, fun _ => ⟨fun _ => ⟨rfl, kI⟩, fun _ => ⟨fun _ => ⟨rfl, kI⟩, fun d => absurd d c3⟩⟩⟩, fun c3 => ⟨fun c4 => ?_, fun c4 => wX12_near ⟨fun _ => ⟨rfl, kI⟩, fun _ => ⟨fun _ => ⟨rfl, kI⟩, fun _ => ⟨fun _ => ⟨rfl, kI⟩, fun _ => ⟨fun d => absurd d c4, fun _ => ⟨rfl, kI⟩⟩⟩⟩⟩⟩⟩⟩⟩
  obtain ⟨n, hn, rfl⟩ := in_le (n := 12) rfl c1
  obtain ⟨w, hw, rfl⟩ := in_le (n := 12) rfl c3
  obtain ⟨m, hm, rfl⟩ := in_le (n := n) (nI_toInt (by omega)) c2
  have hp := mS_pow h hn
  have hl := ls_b h (n := n) (w := w) hn
  have hl2 := ls_b h (n := m) (w := w) (by omega)
  have eS : mS I ^ m * mS I ^ (n - m) = mS I ^ n := by rw [← Nat.pow_add, show m + (n - m) = n by omega]
  have hB : lsN I m w 25 * mS I ^ (n - m) ≤ 300 * mS I ^ n := by
    have := Nat.mul_le_mul_right (mS I ^ (n - m)) hl2.1
    rw [Nat.mul_assoc, eS] at this
    exact this
  generalize hLB : lsN I m w 25 * mS I ^ (n - m) = B at hB
  have ab : ∃ x, isAbs (lN (lsN I n w 25) - lN B) x := by
    rcases Nat.le_total B (lsN I n w 25) with z | z
    · exact ⟨lsN I n w 25 - B, by omega, Or.inl (lN_sub z)⟩
    · refine ⟨B - lsN I n w 25, by omega, Or.inr ?_⟩
      rw [← lN_sub z, Int64.neg_sub]
  obtain ⟨x, ab⟩ := ab
  refine tX10_lossSum h hn hw (fun J2 => tX10_lossSum h (by omega) hw (fun J3 => ?_))
  rw [nI_sub hm]
  refine tX10_power h (by omega) (tX10_power h hn ?_)
  rw [pw_N h, pw_N h, lN_mul, hLB]
  refine tX10_low ab hp.1 (by omega) ?_
  refine wX12_near ⟨fun d => absurd c1 d, fun _ => ⟨fun d => absurd c2 d, fun _ => ⟨fun d => absurd c3 d, fun _ => ⟨fun _ => ?_, fun d => absurd c4 d⟩⟩⟩⟩
  refine tX12_lossOf h (by omega) hw (fun J4 _ => ?_)
  have := nearM_loop (E := E) (J := J4) (L := lsN I m w 25) (m0 := m) (q := a3) (P := fun x5 I6 J7 => (if ¬ a3 = 0 then lN (mS I ^ n) / lN (Nat.gcd x (mS I ^ n)) else (lN (lsN I n w 25) - lN B) / lN (Nat.gcd x (mS I ^ n))) = x5 ∧ P I6 J7) h hn hw (by
    rw [hLB]
    refine tX12_lossOf h hn hw (fun J5 hpw => ?_)
    rw [hpw]
    exact tX12_low ab hp.1 (by omega) ⟨rfl, hP _ _ h⟩) (n - m) m (Nat.le_refl _) (by omega)
  rw [Nat.sub_self, Nat.pow_zero, Nat.mul_one] at this
  exact this
