/-! courses of a worth: the same sums in both -/
noncomputable def cn (I : hI_) : Nat → Nat → Int64
  | 0, k => if k = 12 then 1 else 0
  | n + 1, k => ((I 73 3).toInt64 * (if 24 ≤ k then 0 else cn I n (k + 1)) + (I 73 4).toInt64 * cn I n k) + (I 73 5).toInt64 * (if k = 0 then 0 else cn I n (k - 1))
noncomputable def pw (I : hI_) : Nat → Int64
  | 0 => 1
  | n + 1 => pw I n * (I 73 3 + I 73 4 + I 73 5).toInt64
def agJ (c d : Nat) (J J2 : hJ_) : Prop := ∀ a, a ≠ c → a ≠ d → J2 a = J a
theorem Rel_mv {I : hI_} (h : Rel I) : I 9 0 = I 73 3 ∧ I 9 1 = I 73 4 ∧ I 9 2 = I 73 5 := h.2.1.2.2.2.1
theorem flJ_at {J : hJ_} {a n b j : Nat} {v : Int64} : flJ J a n v b j = if b = a ∧ j < n then v else J b j := by
  unfold flJ
  by_cases h : b = a
  · subst h
    by_cases h2 : j < n <;> simp [h2]
  · simp [h]
def HX10_walk_18 (E : aE) (P : hI_ → hJ_ → Prop) (v1 : Int32) (v2 : Int32) (I : hI_) (J : hJ_) : Prop := V E mX10_walk (kV SH P) 18 [.ref 42, .int v1, .int v2, .retAddr 0, .retAddr 0, .retAddr 0, .retAddr 0, .retAddr 0] [] (SH, I, J) (0, 0)
def HX10_walk_40 (E : aE) (P : hI_ → hJ_ → Prop) (v1 : Int32) (v2 : Int32) (v3 : Int32) (I : hI_) (J : hJ_) : Prop := V E mX10_walk (kV SH P) 40 [.ref 42, .int v1, .int v2, .int v3, .retAddr 0, .retAddr 0, .retAddr 0, .retAddr 0] [] (SH, I, J) (0, 0)
set_option maxHeartbeats 4000000 in
set_option maxRecDepth 20000 in
theorem wX10_walk {E : aE} {P : hI_ → hJ_ → Prop} {I : hI_} {J : hJ_} {a0 : Int32} (k : HX10_walk_18 E P a0 (0 : Int32) I (upJ (flJ J 43 25 (0 : Int64)) 43 12 (1 : Int64))) : CallV E mX10_walk [.ref 42, .int a0] SH I J P := by
  refine Call_of (L := [.ref 42, .int a0, .retAddr 0, .retAddr 0, .retAddr 0, .retAddr 0, .retAddr 0, .retAddr 0]) ok_X10_walk.1 rfl rfl ?_
  refine V_aload_n dX10_walk_0 rfl ?_
  refine U_getR dX10_walk_1 fl_X10_11 s_42 rfl ?_
  refine V_lconst (v := (0 : Int64)) dX10_walk_4 rfl ?_
  refine U_callS0 [.ref 43, .long (0 : Int64)] dX10_walk_5 os_X10_22 ⟨rfl, rfl, rfl⟩ rfl rfl rfl (tfillJ s_43 (by decide) ?_)
  refine V_aload_n dX10_walk_8 rfl ?_
  refine U_getR dX10_walk_9 fl_X10_11 s_42 rfl ?_
  refine V_bipush (v := (12 : Int32)) dX10_walk_12 rfl ?_
  refine V_lconst (v := (1 : Int64)) dX10_walk_14 rfl ?_
  refine U_last dX10_walk_15 s_43 (by unfold vp_in; decide) ?_
  refine V_iconst (v := (0 : Int32)) dX10_walk_16 rfl ?_
  refine U_istore_n (L2 := [.ref 42, .int a0, .int (0 : Int32), .retAddr 0, .retAddr 0, .retAddr 0, .retAddr 0, .retAddr 0]) dX10_walk_17 (by decide) rfl ?_
  exact k
set_option maxHeartbeats 4000000 in
set_option maxRecDepth 20000 in
theorem wX10_walk_18 {E : aE} {P : hI_ → hJ_ → Prop} {I : hI_} {J : hJ_} {v1 : Int32} {v2 : Int32} (k : ((v1 ≤ v2 → P I J) ∧ (¬ (v1 ≤ v2) → HX10_walk_40 E P v1 v2 (0 : Int32) I (cpJ J 43 44 0 0 25)))) : HX10_walk_18 E P v1 v2 I J := by
  show V E mX10_walk (kV SH P) 18 [.ref 42, .int v1, .int v2, .retAddr 0, .retAddr 0, .retAddr 0, .retAddr 0, .retAddr 0] [] (SH, I, J) (0, 0)
  refine V_iload_n dX10_walk_18 rfl ?_
  refine V_iload_n dX10_walk_19 rfl ?_
  refine V_icmp_ge dX10_walk_20 (fun c1 => ?_) (fun c1 => ?_)
  · have k := k.1 c1
    exact V_vret dX10_walk_149 rfl rfl rfl ⟨_, _, rfl, k⟩
  · have k := k.2 c1
    refine V_aload_n dX10_walk_23 rfl ?_
    refine U_getR dX10_walk_24 fl_X10_11 s_42 rfl ?_
    refine V_iconst (v := (0 : Int32)) dX10_walk_27 rfl ?_
    refine V_aload_n dX10_walk_28 rfl ?_
    refine U_getR dX10_walk_29 fl_X10_15 s_42 rfl ?_
    refine V_iconst (v := (0 : Int32)) dX10_walk_32 rfl ?_
    refine V_bipush (v := (25 : Int32)) dX10_walk_33 rfl ?_
    refine U_copyJ dX10_walk_35 oa_X10_28 s_43 s_44 (by decide) (by decide) (by decide) (by decide) (by decide) rfl ?_
    refine V_iconst (v := (0 : Int32)) dX10_walk_38 rfl ?_
    refine U_istore_n (L2 := [.ref 42, .int v1, .int v2, .int (0 : Int32), .retAddr 0, .retAddr 0, .retAddr 0, .retAddr 0]) dX10_walk_39 (by decide) rfl ?_
    exact k
set_option maxHeartbeats 4000000 in
set_option maxRecDepth 20000 in
theorem wX10_walk_40 {E : aE} {P : hI_ → hJ_ → Prop} {I : hI_} {J : hJ_} {v1 : Int32} {v2 : Int32} {v3 : Int32} (k : (((25 : Int32) ≤ v3 → HX10_walk_18 E P v1 (v2 + (1 : Int32)) I J) ∧ (¬ ((25 : Int32) ≤ v3) → ((¬ ((25 : Int32) ≤ (v3 + (1 : Int32)))) → vp_in (v3 + (1 : Int32)) 25) ∧ ((¬ (v3 ≤ (0 : Int32))) → vp_in (v3 - (1 : Int32)) 25) ∧ (vp_in v3 25) ∧ (vp_in v3 25) ∧ HX10_walk_40 E P v1 v2 (v3 + (1 : Int32)) I (upJ J 43 v3.toNatClampNeg (((((I 9 0).toInt64) * (if (25 : Int32) ≤ (v3 + (1 : Int32)) then (0 : Int64) else (J 44 (v3 + (1 : Int32)).toNatClampNeg))) + (((I 9 1).toInt64) * (J 44 v3.toNatClampNeg))) + (((I 9 2).toInt64) * (if v3 ≤ (0 : Int32) then (0 : Int64) else (J 44 (v3 - (1 : Int32)).toNatClampNeg)))))))) : HX10_walk_40 E P v1 v2 v3 I J := by
  show V E mX10_walk (kV SH P) 40 [.ref 42, .int v1, .int v2, .int v3, .retAddr 0, .retAddr 0, .retAddr 0, .retAddr 0] [] (SH, I, J) (0, 0)
  refine V_iload_n dX10_walk_40 rfl ?_
  refine V_bipush (v := (25 : Int32)) dX10_walk_41 rfl ?_
  refine V_icmp_ge dX10_walk_43 (fun c1 => ?_) (fun c1 => ?_)
  · have k := k.1 c1
    refine U_iinc (v := v2 + (1 : Int32)) (L2 := [.ref 42, .int v1, .int (v2 + (1 : Int32)), .int v3, .retAddr 0, .retAddr 0, .retAddr 0, .retAddr 0]) dX10_walk_143 (by decide) rfl rfl rfl ?_
    refine V_goto dX10_walk_146 ?_
    exact V_wk (wk_eq (wk_eq (wk_eq (wk_j (wk_j (wk_j (wk_j (wk_j (wk_nil))))))))) k
  · have k := k.2 c1
    refine V_iload_n dX10_walk_46 rfl ?_
    refine V_iconst (v := (1 : Int32)) dX10_walk_47 rfl ?_
    refine V_iadd dX10_walk_48 ?_
    refine V_bipush (v := (25 : Int32)) dX10_walk_49 rfl ?_
    obtain ⟨hc2005, k⟩ := k
    have key2 : ∀ (y2004 : Int64), y2004 = (if (25 : Int32) ≤ (v3 + (1 : Int32)) then (0 : Int64) else (J 44 (v3 + (1 : Int32)).toNatClampNeg)) → V E mX10_walk (kV SH P) 66 [.ref 42, .int v1, .int v2, .int v3, .retAddr 0, .retAddr 0, .retAddr 0, .retAddr 0] [.long y2004] (SH, I, J) (0, 0) := by
      intro y2004 ey2004
      subst ey2004
      refine U_lstore (L2 := [.ref 42, .int v1, .int v2, .int v3, .long (if (25 : Int32) ≤ (v3 + (1 : Int32)) then (0 : Int64) else (J 44 (v3 + (1 : Int32)).toNatClampNeg)), .retAddr 0, .retAddr 0, .retAddr 0]) dX10_walk_66 (by decide) rfl ?_
      refine V_iload_n dX10_walk_68 rfl ?_
      obtain ⟨hc4009, k⟩ := k
      have key2006 : ∀ (y4008 : Int64), y4008 = (if v3 ≤ (0 : Int32) then (0 : Int64) else (J 44 (v3 - (1 : Int32)).toNatClampNeg)) → V E mX10_walk (kV SH P) 84 [.ref 42, .int v1, .int v2, .int v3, .long (if (25 : Int32) ≤ (v3 + (1 : Int32)) then (0 : Int64) else (J 44 (v3 + (1 : Int32)).toNatClampNeg)), .retAddr 0, .retAddr 0, .retAddr 0] [.long y4008] (SH, I, J) (0, 0) := by
        intro y4008 ey4008
        subst ey4008
        refine U_lstore (L2 := [.ref 42, .int v1, .int v2, .int v3, .long (if (25 : Int32) ≤ (v3 + (1 : Int32)) then (0 : Int64) else (J 44 (v3 + (1 : Int32)).toNatClampNeg)), .retAddr 0, .long (if v3 ≤ (0 : Int32) then (0 : Int64) else (J 44 (v3 - (1 : Int32)).toNatClampNeg)), .retAddr 0]) dX10_walk_84 (by decide) rfl ?_
        refine V_aload_n dX10_walk_86 rfl ?_
        refine U_getR dX10_walk_87 fl_X10_11 s_42 rfl ?_
        refine V_iload_n dX10_walk_90 rfl ?_
        refine V_aload_n dX10_walk_91 rfl ?_
        refine U_getR dX10_walk_92 fl_X10_18 s_42 rfl ?_
        refine U_getR dX10_walk_95 fl_X10_34 s_3 rfl ?_
        refine V_iconst (v := (0 : Int32)) dX10_walk_98 rfl ?_
        refine U_ialdx (x := I 9 0) dX10_walk_99 s_9 (by unfold vp_in; decide) rfl ?_
        refine V_i2l dX10_walk_100 ?_
        refine V_lload dX10_walk_101 rfl ?_
        refine V_lmul dX10_walk_103 ?_
        refine V_aload_n dX10_walk_104 rfl ?_
        refine U_getR dX10_walk_105 fl_X10_18 s_42 rfl ?_
        refine U_getR dX10_walk_108 fl_X10_34 s_3 rfl ?_
        refine V_iconst (v := (1 : Int32)) dX10_walk_111 rfl ?_
        refine U_ialdx (x := I 9 1) dX10_walk_112 s_9 (by unfold vp_in; decide) rfl ?_
        refine V_i2l dX10_walk_113 ?_
        refine V_aload_n dX10_walk_114 rfl ?_
        refine U_getR dX10_walk_115 fl_X10_15 s_42 rfl ?_
        refine V_iload_n dX10_walk_118 rfl ?_
        obtain ⟨hb4010, k⟩ := k
        refine U_lald dX10_walk_119 s_44 hb4010 ?_
        refine V_lmul dX10_walk_120 ?_
        refine V_ladd dX10_walk_121 ?_
        refine V_aload_n dX10_walk_122 rfl ?_
        refine U_getR dX10_walk_123 fl_X10_18 s_42 rfl ?_
        refine U_getR dX10_walk_126 fl_X10_34 s_3 rfl ?_
        refine V_iconst (v := (2 : Int32)) dX10_walk_129 rfl ?_
        refine U_ialdx (x := I 9 2) dX10_walk_130 s_9 (by unfold vp_in; decide) rfl ?_
        refine V_i2l dX10_walk_131 ?_
        refine V_lload dX10_walk_132 rfl ?_
        refine V_lmul dX10_walk_134 ?_
        refine V_ladd dX10_walk_135 ?_
        obtain ⟨hb4011, k⟩ := k
        refine U_last dX10_walk_136 s_43 hb4011 ?_
        refine U_iinc (v := v3 + (1 : Int32)) (L2 := [.ref 42, .int v1, .int v2, .int (v3 + (1 : Int32)), .long (if (25 : Int32) ≤ (v3 + (1 : Int32)) then (0 : Int64) else (J 44 (v3 + (1 : Int32)).toNatClampNeg)), .retAddr 0, .long (if v3 ≤ (0 : Int32) then (0 : Int64) else (J 44 (v3 - (1 : Int32)).toNatClampNeg)), .retAddr 0]) dX10_walk_137 (by decide) rfl rfl rfl ?_
        refine V_goto dX10_walk_140 ?_
        exact V_wk (wk_eq (wk_eq (wk_eq (wk_eq (wk_j (wk_j (wk_j (wk_j (wk_nil))))))))) k
      refine V_if_le dX10_walk_69 (fun c4012 => ?_) (fun c4012 => ?_)
      · refine V_lconst (v := (0 : Int64)) dX10_walk_83 rfl ?_
        exact key2006 _ (by rw [if_pos c4012])
      · refine V_aload_n dX10_walk_72 rfl ?_
        refine U_getR dX10_walk_73 fl_X10_15 s_42 rfl ?_
        refine V_iload_n dX10_walk_76 rfl ?_
        refine V_iconst (v := (1 : Int32)) dX10_walk_77 rfl ?_
        refine V_isub dX10_walk_78 ?_
        have hb4007 := hc4009 c4012
        refine U_lald dX10_walk_79 s_44 hb4007 ?_
        refine V_goto dX10_walk_80 ?_
        exact key2006 _ (by rw [if_neg c4012])
    refine V_icmp_ge dX10_walk_51 (fun c4013 => ?_) (fun c4013 => ?_)
    · refine V_lconst (v := (0 : Int64)) dX10_walk_65 rfl ?_
      exact key2 _ (by rw [if_pos c4013])
    · refine V_aload_n dX10_walk_54 rfl ?_
      refine U_getR dX10_walk_55 fl_X10_15 s_42 rfl ?_
      refine V_iload_n dX10_walk_58 rfl ?_
      refine V_iconst (v := (1 : Int32)) dX10_walk_59 rfl ?_
      refine V_iadd dX10_walk_60 ?_
      have hb2003 := hc2005 c4013
      refine U_lald dX10_walk_61 s_44 hb2003 ?_
      refine V_goto dX10_walk_62 ?_
      exact key2 _ (by rw [if_neg c4013])
theorem walk_in {E : aE} {P : hI_ → hJ_ → Prop} {I : hI_} {n i : Nat} (h : Rel I) (hi : i < 100) (k : ∀ J2, (∀ q, q < 25 → J2 43 q = cn I (i + 1) q) → HX10_walk_18 E P (nI n) (nI (i + 1)) I J2) : ∀ (m x : Nat) (J : hJ_), x + m = 25 → (∀ q, q < 25 → J 44 q = cn I i q) → (∀ q, q < x → J 43 q = cn I (i + 1) q) → HX10_walk_40 E P (nI n) (nI i) (nI x) I J
  | 0, x, J, hx, h44, h43 => by
    refine wX10_walk_40 ?_
    rw [nI_1 i]
    exact ⟨fun _ => k J (fun q hq => h43 q (by omega)), fun z => absurd (nI_le (a := 25) (by omega) (by omega)) z⟩
  | m + 1, x, J, hx, h44, h43 => by
    obtain ⟨v0, v1, v2⟩ := Rel_mv h
    have vx : vp_in (nI x) 25 := vp_in_nI (by omega) (by omega)
    have e1 : nI x + 1 = nI (x + 1) := nI_1 x
    refine wX10_walk_40 ?_
    rw [e1]
    refine ⟨fun z => absurd z (nI_ge (b := 25) (by omega) (by omega)), fun _ => ⟨fun z => ?_, fun z => ?_, vx, vx, ?_⟩⟩
    · refine vp_in_nI ?_ (by omega)
      rcases Nat.lt_or_ge (x + 1) 25 with y | y
      · exact y
      · exact absurd (nI_le (a := 25) y (by omega)) z
    · cases x with
      | zero => exact absurd (Int32.le_refl 0) z
      | succ x => rw [nI_pred]; exact vp_in_nI (by omega) (by omega)
    · have hd : (if (25 : Int32) ≤ nI (x + 1) then (0 : Int64) else J 44 (nI (x + 1)).toNatClampNeg) = (if 24 ≤ x then 0 else cn I i (x + 1)) := by
        by_cases z : 24 ≤ x
        · rw [if_pos z, if_pos (show (25 : Int32) ≤ nI (x + 1) from nI_le (a := 25) (by omega) (by omega))]
        · rw [if_neg z, if_neg (show ¬ (25 : Int32) ≤ nI (x + 1) from nI_ge (b := 25) (by omega) (by omega)), nI_clamp (by omega), h44 _ (by omega)]
      have hu : (if nI x ≤ 0 then (0 : Int64) else J 44 (nI x - 1).toNatClampNeg) = (if x = 0 then 0 else cn I i (x - 1)) := by
        cases x with
        | zero => rw [if_pos (show nI 0 ≤ 0 from Int32.le_refl 0), if_pos rfl]
        | succ x => rw [if_neg (show ¬ nI (x + 1) ≤ 0 from nI_ge (a := 0) (by omega) (by omega)), if_neg (show ¬ x + 1 = 0 by omega), nI_pred, nI_clamp (by omega), h44 _ (by omega), Nat.add_sub_cancel]
      rw [hd, hu, nI_clamp (by omega), h44 x (by omega), v0, v1, v2]
      refine walk_in h hi k m (x + 1) _ (by omega) (fun q hq => ?_) (fun q hq => ?_)
      · rw [upJ_at, if_neg (by omega)]; exact h44 q hq
      · rw [upJ_at]
        by_cases e : q = x
        · rw [if_pos ⟨rfl, e⟩, e]; rfl
        · rw [if_neg (fun z => e z.2)]; exact h43 q (by omega)
theorem walk_out {E : aE} {P : hI_ → hJ_ → Prop} {I : hI_} {n : Nat} (h : Rel I) (hn : n ≤ 12) (k : ∀ J2, (∀ q, q < 25 → J2 43 q = cn I n q) → P I J2) : ∀ (m i : Nat) (J : hJ_), i + m = n → (∀ q, q < 25 → J 43 q = cn I i q) → HX10_walk_18 E P (nI n) (nI i) I J
  | 0, i, J, hi, h43 => by
    have e : i = n := by omega
    subst e
    exact wX10_walk_18 ⟨fun _ => k J h43, fun z => absurd (nI_le (by omega) (by omega)) z⟩
  | m + 1, i, J, hi, h43 => by
    refine wX10_walk_18 ⟨fun z => absurd z (nI_ge (by omega) (by omega)), fun _ => ?_⟩
    refine walk_in h (by omega) (fun J2 h2 => walk_out h hn k m (i + 1) J2 (by omega) h2) 25 0 _ (by omega) (fun q hq => ?_) (fun q hq => by omega)
    have c3 : cpJ J 43 44 0 0 25 44 = va_cpy (J 43) (J 44) 0 0 25 := if_pos rfl
    rw [c3, pk_cpy_in (by omega) (by omega), Nat.zero_add, Nat.sub_zero]
    exact h43 q hq
theorem tX10_walk {E : aE} {P : hI_ → hJ_ → Prop} {I : hI_} {J : hJ_} {n : Nat} (h : Rel I) (hn : n ≤ 12) (k : ∀ J2, (∀ q, q < 25 → J2 43 q = cn I n q) → P I J2) : CallV E mX10_walk [.ref 42, .int (nI n)] SH I J P := by
  refine wX10_walk (walk_out h hn k n 0 _ (by omega) (fun q hq => ?_))
  rw [upJ_at]
  have e0 : cn I 0 q = if q = 12 then 1 else 0 := rfl
  rw [e0]
  by_cases e : q = 12
  · rw [if_pos ⟨rfl, e⟩, if_pos e]
  · rw [if_neg (fun z => e z.2), if_neg e, flJ_at, if_pos ⟨rfl, hq⟩]
def HX10_power_5 (E : aE) (P : Int64 → hI_ → hJ_ → Prop) (v1 : Int32) (v2 : Int64) (v4 : Int32) (I : hI_) (J : hJ_) : Prop := V E mX10_power (kJ SH P) 5 [.ref 42, .int v1, .long v2, .retAddr 0, .int v4] [] (SH, I, J) (0, 0)
set_option maxHeartbeats 4000000 in
set_option maxRecDepth 20000 in
theorem wX10_power {E : aE} {P : Int64 → hI_ → hJ_ → Prop} {I : hI_} {J : hJ_} {a0 : Int32} (k : HX10_power_5 E P a0 (1 : Int64) (0 : Int32) I J) : CallJ E mX10_power [.ref 42, .int a0] SH I J P := by
  refine Call_of (L := [.ref 42, .int a0, .retAddr 0, .retAddr 0, .retAddr 0]) ok_X10_power.1 rfl rfl ?_
  refine V_lconst (v := (1 : Int64)) dX10_power_0 rfl ?_
  refine U_lstore_n (L2 := [.ref 42, .int a0, .long (1 : Int64), .retAddr 0, .retAddr 0]) dX10_power_1 (by decide) rfl ?_
  refine V_iconst (v := (0 : Int32)) dX10_power_2 rfl ?_
  refine U_istore (L2 := [.ref 42, .int a0, .long (1 : Int64), .retAddr 0, .int (0 : Int32)]) dX10_power_3 (by decide) rfl ?_
  exact k
set_option maxHeartbeats 4000000 in
set_option maxRecDepth 20000 in
theorem wX10_power_5 {E : aE} {P : Int64 → hI_ → hJ_ → Prop} {I : hI_} {J : hJ_} {v1 : Int32} {v2 : Int64} {v4 : Int32} (k : ((v1 ≤ v4 → P v2 I J) ∧ (¬ (v1 ≤ v4) → HX10_power_5 E P v1 (v2 * ((I 9 0 + I 9 1 + I 9 2).toInt64)) (v4 + (1 : Int32)) I J))) : HX10_power_5 E P v1 v2 v4 I J := by
  show V E mX10_power (kJ SH P) 5 [.ref 42, .int v1, .long v2, .retAddr 0, .int v4] [] (SH, I, J) (0, 0)
  refine V_iload dX10_power_5 rfl ?_
  refine V_iload_n dX10_power_7 rfl ?_
  refine V_icmp_ge dX10_power_8 (fun c1 => ?_) (fun c1 => ?_)
  · have k := k.1 c1
    refine V_lload_n dX10_power_28 rfl ?_
    exact V_lret dX10_power_29 rfl rfl rfl ⟨_, _, _, rfl, rfl, k⟩
  · have k := k.2 c1
    refine V_lload_n dX10_power_11 rfl ?_
    refine V_aload_n dX10_power_12 rfl ?_
    refine U_getR dX10_power_13 fl_X10_18 s_42 rfl ?_
    refine U_callV1 [] dX10_power_16 ov_X10_40 s_3 rfl ⟨rfl, rfl, rfl⟩ rfl rfl rfl (tX3_allMoves3 ?_)
    refine V_i2l dX10_power_19 ?_
    refine V_lmul dX10_power_20 ?_
    refine U_lstore_n (L2 := [.ref 42, .int v1, .long (v2 * ((I 9 0 + I 9 1 + I 9 2).toInt64)), .retAddr 0, .int v4]) dX10_power_21 (by decide) rfl ?_
    refine U_iinc (v := v4 + (1 : Int32)) (L2 := [.ref 42, .int v1, .long (v2 * ((I 9 0 + I 9 1 + I 9 2).toInt64)), .retAddr 0, .int (v4 + (1 : Int32))]) dX10_power_22 (by decide) rfl rfl rfl ?_
    refine V_goto dX10_power_25 ?_
    exact k
theorem power_loop {E : aE} {P : Int64 → hI_ → hJ_ → Prop} {I : hI_} {J : hJ_} {n : Nat} (h : Rel I) (hn : n ≤ 12) (k : P (pw I n) I J) : ∀ (m i : Nat), i + m = n → HX10_power_5 E P (nI n) (pw I i) (nI i) I J
  | 0, i, hi => by
    have e : i = n := by omega
    subst e
    exact wX10_power_5 ⟨fun _ => k, fun z => absurd (nI_le (by omega) (by omega)) z⟩
  | m + 1, i, hi => by
    obtain ⟨v0, v1, v2⟩ := Rel_mv h
    refine wX10_power_5 ⟨fun z => absurd z (nI_ge (by omega) (by omega)), fun _ => ?_⟩
    rw [v0, v1, v2, nI_1]
    exact power_loop h hn k m (i + 1) (by omega)
theorem tX10_power {E : aE} {P : Int64 → hI_ → hJ_ → Prop} {I : hI_} {J : hJ_} {n : Nat} (h : Rel I) (hn : n ≤ 12) (k : P (pw I n) I J) : CallJ E mX10_power [.ref 42, .int (nI n)] SH I J P := wX10_power (power_loop h hn k n 0 (by omega))
def HX12_layWalks_2 (E : aE) (P : hI_ → hJ_ → Prop) (v1 : Int32) (v2 : Int32) (I : hI_) (J : hJ_) : Prop := V E mX12_layWalks (kV SH P) 2 [.ref 68, .int v1, .int v2, .retAddr 0, .retAddr 0, .retAddr 0, .retAddr 0, .retAddr 0] [] (SH, I, J) (0, 0)
def HX12_layWalks_38 (E : aE) (P : hI_ → hJ_ → Prop) (v1 : Int32) (v2 : Int32) (I : hI_) (J : hJ_) : Prop := V E mX12_layWalks (kV SH P) 38 [.ref 68, .int v1, .int v2, .retAddr 0, .retAddr 0, .retAddr 0, .retAddr 0, .retAddr 0] [] (SH, I, J) (0, 0)
def HX12_layWalks_45 (E : aE) (P : hI_ → hJ_ → Prop) (v1 : Int32) (v2 : Int32) (v3 : Int32) (I : hI_) (J : hJ_) : Prop := V E mX12_layWalks (kV SH P) 45 [.ref 68, .int v1, .int v2, .int v3, .retAddr 0, .retAddr 0, .retAddr 0, .retAddr 0] [] (SH, I, J) (0, 0)
def HX12_layWalks_139 (E : aE) (P : hI_ → hJ_ → Prop) (v1 : Int32) (v2 : Int32) (v3 : Int32) (I : hI_) (J : hJ_) : Prop := V E mX12_layWalks (kV SH P) 139 [.ref 68, .int v1, .int v2, .int v3, .retAddr 0, .retAddr 0, .retAddr 0, .retAddr 0] [] (SH, I, J) (0, 0)
set_option maxHeartbeats 4000000 in
set_option maxRecDepth 20000 in
theorem wX12_layWalks {E : aE} {P : hI_ → hJ_ → Prop} {I : hI_} {J : hJ_} {a0 : Int32} (k : HX12_layWalks_2 E P a0 (0 : Int32) I J) : CallV E mX12_layWalks [.ref 68, .int a0] SH I J P := by
  refine Call_of (L := [.ref 68, .int a0, .retAddr 0, .retAddr 0, .retAddr 0, .retAddr 0, .retAddr 0, .retAddr 0]) ok_X12_layWalks.1 rfl rfl ?_
  refine V_iconst (v := (0 : Int32)) dX12_layWalks_0 rfl ?_
  refine U_istore_n (L2 := [.ref 68, .int a0, .int (0 : Int32), .retAddr 0, .retAddr 0, .retAddr 0, .retAddr 0, .retAddr 0]) dX12_layWalks_1 (by decide) rfl ?_
  exact k
set_option maxHeartbeats 4000000 in
set_option maxRecDepth 20000 in
theorem wX12_layWalks_2 {E : aE} {P : hI_ → hJ_ → Prop} {I : hI_} {J : hJ_} {v1 : Int32} {v2 : Int32} (k : (((25 : Int32) ≤ v2 → HX12_layWalks_38 E P v1 (0 : Int32) I (upJ J 68 32 (1 : Int64))) ∧ (¬ ((25 : Int32) ≤ v2) → (vp_in v2 25) ∧ HX12_layWalks_2 E P v1 (v2 + (1 : Int32)) I (upJ J 88 v2.toNatClampNeg (if ¬ v2 = (12 : Int32) then (0 : Int64) else (1 : Int64)))))) : HX12_layWalks_2 E P v1 v2 I J := by
  show V E mX12_layWalks (kV SH P) 2 [.ref 68, .int v1, .int v2, .retAddr 0, .retAddr 0, .retAddr 0, .retAddr 0, .retAddr 0] [] (SH, I, J) (0, 0)
  refine V_iload_n dX12_layWalks_2 rfl ?_
  refine V_bipush (v := (25 : Int32)) dX12_layWalks_3 rfl ?_
  refine V_icmp_ge dX12_layWalks_5 (fun c1 => ?_) (fun c1 => ?_)
  · have k := k.1 c1
    refine V_aload_n dX12_layWalks_31 rfl ?_
    refine V_lconst (v := (1 : Int64)) dX12_layWalks_32 rfl ?_
    refine U_putJ dX12_layWalks_33 fp_X12_278 s_68 rfl ?_
    refine V_iconst (v := (0 : Int32)) dX12_layWalks_36 rfl ?_
    refine U_istore_n (L2 := [.ref 68, .int v1, .int (0 : Int32), .retAddr 0, .retAddr 0, .retAddr 0, .retAddr 0, .retAddr 0]) dX12_layWalks_37 (by decide) rfl ?_
    exact k
  · have k := k.2 c1
    refine V_aload_n dX12_layWalks_8 rfl ?_
    refine U_getR dX12_layWalks_9 fl_X12_68 s_68 rfl ?_
    refine V_iload_n dX12_layWalks_12 rfl ?_
    refine V_iload_n dX12_layWalks_13 rfl ?_
    refine V_bipush (v := (12 : Int32)) dX12_layWalks_14 rfl ?_
    have key2 : ∀ (y2003 : Int64), y2003 = (if ¬ v2 = (12 : Int32) then (0 : Int64) else (1 : Int64)) → V E mX12_layWalks (kV SH P) 24 [.ref 68, .int v1, .int v2, .retAddr 0, .retAddr 0, .retAddr 0, .retAddr 0, .retAddr 0] [.long y2003, .int v2, .ref 88] (SH, I, J) (0, 0) := by
      intro y2003 ey2003
      subst ey2003
      obtain ⟨hb2004, k⟩ := k
      refine U_last dX12_layWalks_24 s_88 hb2004 ?_
      refine U_iinc (v := v2 + (1 : Int32)) (L2 := [.ref 68, .int v1, .int (v2 + (1 : Int32)), .retAddr 0, .retAddr 0, .retAddr 0, .retAddr 0, .retAddr 0]) dX12_layWalks_25 (by decide) rfl rfl rfl ?_
      refine V_goto dX12_layWalks_28 ?_
      exact k
    refine V_icmp_ne dX12_layWalks_16 (fun c2005 => ?_) (fun c2005 => ?_)
    · refine V_lconst (v := (0 : Int64)) dX12_layWalks_23 rfl ?_
      exact key2 _ (by rw [if_pos c2005])
    · refine V_lconst (v := (1 : Int64)) dX12_layWalks_19 rfl ?_
      refine V_goto dX12_layWalks_20 ?_
      exact key2 _ (by rw [if_neg (not_not_intro c2005)])
set_option maxHeartbeats 4000000 in
set_option maxRecDepth 20000 in
theorem wX12_layWalks_38 {E : aE} {P : hI_ → hJ_ → Prop} {I : hI_} {J : hJ_} {v1 : Int32} {v2 : Int32} (k : ((v1 ≤ v2 → P I J) ∧ (¬ (v1 ≤ v2) → HX12_layWalks_45 E P v1 v2 (0 : Int32) I J))) : HX12_layWalks_38 E P v1 v2 I J := by
  show V E mX12_layWalks (kV SH P) 38 [.ref 68, .int v1, .int v2, .retAddr 0, .retAddr 0, .retAddr 0, .retAddr 0, .retAddr 0] [] (SH, I, J) (0, 0)
  refine V_iload_n dX12_layWalks_38 rfl ?_
  refine V_iload_n dX12_layWalks_39 rfl ?_
  refine V_icmp_ge dX12_layWalks_40 (fun c1 => ?_) (fun c1 => ?_)
  · have k := k.1 c1
    exact V_vret dX12_layWalks_199 rfl rfl rfl ⟨_, _, rfl, k⟩
  · have k := k.2 c1
    refine V_iconst (v := (0 : Int32)) dX12_layWalks_43 rfl ?_
    refine U_istore_n (L2 := [.ref 68, .int v1, .int v2, .int (0 : Int32), .retAddr 0, .retAddr 0, .retAddr 0, .retAddr 0]) dX12_layWalks_44 (by decide) rfl ?_
    exact k
set_option maxHeartbeats 4000000 in
set_option maxRecDepth 20000 in
theorem wX12_layWalks_45 {E : aE} {P : hI_ → hJ_ → Prop} {I : hI_} {J : hJ_} {v1 : Int32} {v2 : Int32} {v3 : Int32} (k : (((25 : Int32) ≤ v3 → HX12_layWalks_139 E P v1 v2 (0 : Int32) I J) ∧ (¬ ((25 : Int32) ≤ v3) → ((¬ (v3 ≤ (0 : Int32))) → vp_in (v3 - (1 : Int32)) 25) ∧ ((¬ ((24 : Int32) ≤ v3)) → vp_in (v3 + (1 : Int32)) 25) ∧ (vp_in v3 25) ∧ (vp_in v3 25) ∧ HX12_layWalks_45 E P v1 v2 (v3 + (1 : Int32)) I (upJ J 89 v3.toNatClampNeg ((((if (24 : Int32) ≤ v3 then (0 : Int64) else (J 88 (v3 + (1 : Int32)).toNatClampNeg)) * ((I 73 3).toInt64)) + ((J 88 v3.toNatClampNeg) * ((I 73 4).toInt64))) + ((if v3 ≤ (0 : Int32) then (0 : Int64) else (J 88 (v3 - (1 : Int32)).toNatClampNeg)) * ((I 73 5).toInt64))))))) : HX12_layWalks_45 E P v1 v2 v3 I J := by
  show V E mX12_layWalks (kV SH P) 45 [.ref 68, .int v1, .int v2, .int v3, .retAddr 0, .retAddr 0, .retAddr 0, .retAddr 0] [] (SH, I, J) (0, 0)
  refine V_iload_n dX12_layWalks_45 rfl ?_
  refine V_bipush (v := (25 : Int32)) dX12_layWalks_46 rfl ?_
  refine V_icmp_ge dX12_layWalks_48 (fun c1 => ?_) (fun c1 => ?_)
  · have k := k.1 c1
    refine V_iconst (v := (0 : Int32)) dX12_layWalks_137 rfl ?_
    refine U_istore_n (L2 := [.ref 68, .int v1, .int v2, .int (0 : Int32), .retAddr 0, .retAddr 0, .retAddr 0, .retAddr 0]) dX12_layWalks_138 (by decide) rfl ?_
    exact k
  · have k := k.2 c1
    refine V_iload_n dX12_layWalks_51 rfl ?_
    obtain ⟨hc2005, k⟩ := k
    have key2 : ∀ (y2004 : Int64), y2004 = (if v3 ≤ (0 : Int32) then (0 : Int64) else (J 88 (v3 - (1 : Int32)).toNatClampNeg)) → V E mX12_layWalks (kV SH P) 67 [.ref 68, .int v1, .int v2, .int v3, .retAddr 0, .retAddr 0, .retAddr 0, .retAddr 0] [.long y2004] (SH, I, J) (0, 0) := by
      intro y2004 ey2004
      subst ey2004
      refine U_lstore (L2 := [.ref 68, .int v1, .int v2, .int v3, .long (if v3 ≤ (0 : Int32) then (0 : Int64) else (J 88 (v3 - (1 : Int32)).toNatClampNeg)), .retAddr 0, .retAddr 0, .retAddr 0]) dX12_layWalks_67 (by decide) rfl ?_
      refine V_iload_n dX12_layWalks_69 rfl ?_
      refine V_bipush (v := (24 : Int32)) dX12_layWalks_70 rfl ?_
      obtain ⟨hc4009, k⟩ := k
      have key2006 : ∀ (y4008 : Int64), y4008 = (if (24 : Int32) ≤ v3 then (0 : Int64) else (J 88 (v3 + (1 : Int32)).toNatClampNeg)) → V E mX12_layWalks (kV SH P) 87 [.ref 68, .int v1, .int v2, .int v3, .long (if v3 ≤ (0 : Int32) then (0 : Int64) else (J 88 (v3 - (1 : Int32)).toNatClampNeg)), .retAddr 0, .retAddr 0, .retAddr 0] [.long y4008] (SH, I, J) (0, 0) := by
        intro y4008 ey4008
        subst ey4008
        refine U_lstore (L2 := [.ref 68, .int v1, .int v2, .int v3, .long (if v3 ≤ (0 : Int32) then (0 : Int64) else (J 88 (v3 - (1 : Int32)).toNatClampNeg)), .retAddr 0, .long (if (24 : Int32) ≤ v3 then (0 : Int64) else (J 88 (v3 + (1 : Int32)).toNatClampNeg)), .retAddr 0]) dX12_layWalks_87 (by decide) rfl ?_
        refine V_aload_n dX12_layWalks_89 rfl ?_
        refine U_getR dX12_layWalks_90 fl_X12_72 s_68 rfl ?_
        refine V_iload_n dX12_layWalks_93 rfl ?_
        refine V_lload dX12_layWalks_94 rfl ?_
        refine V_aload_n dX12_layWalks_96 rfl ?_
        refine U_getR dX12_layWalks_97 fl_X12_22 s_68 rfl ?_
        refine V_iconst (v := (3 : Int32)) dX12_layWalks_100 rfl ?_
        refine U_ialdx (x := I 73 3) dX12_layWalks_101 s_73 (by unfold vp_in; decide) rfl ?_
        refine V_i2l dX12_layWalks_102 ?_
        refine V_lmul dX12_layWalks_103 ?_
        refine V_aload_n dX12_layWalks_104 rfl ?_
        refine U_getR dX12_layWalks_105 fl_X12_68 s_68 rfl ?_
        refine V_iload_n dX12_layWalks_108 rfl ?_
        obtain ⟨hb4010, k⟩ := k
        refine U_lald dX12_layWalks_109 s_88 hb4010 ?_
        refine V_aload_n dX12_layWalks_110 rfl ?_
        refine U_getR dX12_layWalks_111 fl_X12_22 s_68 rfl ?_
        refine V_iconst (v := (4 : Int32)) dX12_layWalks_114 rfl ?_
        refine U_ialdx (x := I 73 4) dX12_layWalks_115 s_73 (by unfold vp_in; decide) rfl ?_
        refine V_i2l dX12_layWalks_116 ?_
        refine V_lmul dX12_layWalks_117 ?_
        refine V_ladd dX12_layWalks_118 ?_
        refine V_lload dX12_layWalks_119 rfl ?_
        refine V_aload_n dX12_layWalks_121 rfl ?_
        refine U_getR dX12_layWalks_122 fl_X12_22 s_68 rfl ?_
        refine V_iconst (v := (5 : Int32)) dX12_layWalks_125 rfl ?_
        refine U_ialdx (x := I 73 5) dX12_layWalks_126 s_73 (by unfold vp_in; decide) rfl ?_
        refine V_i2l dX12_layWalks_127 ?_
        refine V_lmul dX12_layWalks_128 ?_
        refine V_ladd dX12_layWalks_129 ?_
        obtain ⟨hb4011, k⟩ := k
        refine U_last dX12_layWalks_130 s_89 hb4011 ?_
        refine U_iinc (v := v3 + (1 : Int32)) (L2 := [.ref 68, .int v1, .int v2, .int (v3 + (1 : Int32)), .long (if v3 ≤ (0 : Int32) then (0 : Int64) else (J 88 (v3 - (1 : Int32)).toNatClampNeg)), .retAddr 0, .long (if (24 : Int32) ≤ v3 then (0 : Int64) else (J 88 (v3 + (1 : Int32)).toNatClampNeg)), .retAddr 0]) dX12_layWalks_131 (by decide) rfl rfl rfl ?_
        refine V_goto dX12_layWalks_134 ?_
        exact V_wk (wk_eq (wk_eq (wk_eq (wk_eq (wk_j (wk_j (wk_j (wk_j (wk_nil))))))))) k
      refine V_icmp_ge dX12_layWalks_72 (fun c4012 => ?_) (fun c4012 => ?_)
      · refine V_lconst (v := (0 : Int64)) dX12_layWalks_86 rfl ?_
        exact key2006 _ (by rw [if_pos c4012])
      · refine V_aload_n dX12_layWalks_75 rfl ?_
        refine U_getR dX12_layWalks_76 fl_X12_68 s_68 rfl ?_
        refine V_iload_n dX12_layWalks_79 rfl ?_
        refine V_iconst (v := (1 : Int32)) dX12_layWalks_80 rfl ?_
        refine V_iadd dX12_layWalks_81 ?_
        have hb4007 := hc4009 c4012
        refine U_lald dX12_layWalks_82 s_88 hb4007 ?_
        refine V_goto dX12_layWalks_83 ?_
        exact key2006 _ (by rw [if_neg c4012])
    refine V_if_le dX12_layWalks_52 (fun c4013 => ?_) (fun c4013 => ?_)
    · refine V_lconst (v := (0 : Int64)) dX12_layWalks_66 rfl ?_
      exact key2 _ (by rw [if_pos c4013])
    · refine V_aload_n dX12_layWalks_55 rfl ?_
      refine U_getR dX12_layWalks_56 fl_X12_68 s_68 rfl ?_
      refine V_iload_n dX12_layWalks_59 rfl ?_
      refine V_iconst (v := (1 : Int32)) dX12_layWalks_60 rfl ?_
      refine V_isub dX12_layWalks_61 ?_
      have hb2003 := hc2005 c4013
      refine U_lald dX12_layWalks_62 s_88 hb2003 ?_
      refine V_goto dX12_layWalks_63 ?_
      exact key2 _ (by rw [if_neg c4013])
set_option maxHeartbeats 4000000 in
set_option maxRecDepth 20000 in
theorem wX12_layWalks_139 {E : aE} {P : hI_ → hJ_ → Prop} {I : hI_} {J : hJ_} {v1 : Int32} {v2 : Int32} {v3 : Int32} (k : (((25 : Int32) ≤ v3 → HX12_layWalks_38 E P v1 (v2 + (1 : Int32)) I (upJ J 68 32 ((J 68 32) * ((((I 73 3) + (I 73 4)) + (I 73 5)).toInt64)))) ∧ (¬ ((25 : Int32) ≤ v3) → (vp_in v3 25) ∧ (vp_in v3 25) ∧ HX12_layWalks_139 E P v1 v2 (v3 + (1 : Int32)) I (upJ J 88 v3.toNatClampNeg (J 89 v3.toNatClampNeg))))) : HX12_layWalks_139 E P v1 v2 v3 I J := by
  show V E mX12_layWalks (kV SH P) 139 [.ref 68, .int v1, .int v2, .int v3, .retAddr 0, .retAddr 0, .retAddr 0, .retAddr 0] [] (SH, I, J) (0, 0)
  refine V_iload_n dX12_layWalks_139 rfl ?_
  refine V_bipush (v := (25 : Int32)) dX12_layWalks_140 rfl ?_
  refine V_icmp_ge dX12_layWalks_142 (fun c1 => ?_) (fun c1 => ?_)
  · have k := k.1 c1
    refine V_aload_n dX12_layWalks_163 rfl ?_
    refine V_dupR dX12_layWalks_164 ?_
    refine U_getJ dX12_layWalks_165 fl_X12_278 s_68 rfl ?_
    refine V_aload_n dX12_layWalks_168 rfl ?_
    refine U_getR dX12_layWalks_169 fl_X12_22 s_68 rfl ?_
    refine V_iconst (v := (3 : Int32)) dX12_layWalks_172 rfl ?_
    refine U_ialdx (x := I 73 3) dX12_layWalks_173 s_73 (by unfold vp_in; decide) rfl ?_
    refine V_aload_n dX12_layWalks_174 rfl ?_
    refine U_getR dX12_layWalks_175 fl_X12_22 s_68 rfl ?_
    refine V_iconst (v := (4 : Int32)) dX12_layWalks_178 rfl ?_
    refine U_ialdx (x := I 73 4) dX12_layWalks_179 s_73 (by unfold vp_in; decide) rfl ?_
    refine V_iadd dX12_layWalks_180 ?_
    refine V_aload_n dX12_layWalks_181 rfl ?_
    refine U_getR dX12_layWalks_182 fl_X12_22 s_68 rfl ?_
    refine V_iconst (v := (5 : Int32)) dX12_layWalks_185 rfl ?_
    refine U_ialdx (x := I 73 5) dX12_layWalks_186 s_73 (by unfold vp_in; decide) rfl ?_
    refine V_iadd dX12_layWalks_187 ?_
    refine V_i2l dX12_layWalks_188 ?_
    refine V_lmul dX12_layWalks_189 ?_
    refine U_putJ dX12_layWalks_190 fp_X12_278 s_68 rfl ?_
    refine U_iinc (v := v2 + (1 : Int32)) (L2 := [.ref 68, .int v1, .int (v2 + (1 : Int32)), .int v3, .retAddr 0, .retAddr 0, .retAddr 0, .retAddr 0]) dX12_layWalks_193 (by decide) rfl rfl rfl ?_
    refine V_goto dX12_layWalks_196 ?_
    exact V_wk (wk_eq (wk_eq (wk_eq (wk_j (wk_j (wk_j (wk_j (wk_j (wk_nil))))))))) k
  · have k := k.2 c1
    refine V_aload_n dX12_layWalks_145 rfl ?_
    refine U_getR dX12_layWalks_146 fl_X12_68 s_68 rfl ?_
    refine V_iload_n dX12_layWalks_149 rfl ?_
    refine V_aload_n dX12_layWalks_150 rfl ?_
    refine U_getR dX12_layWalks_151 fl_X12_72 s_68 rfl ?_
    refine V_iload_n dX12_layWalks_154 rfl ?_
    obtain ⟨hb2, k⟩ := k
    refine U_lald dX12_layWalks_155 s_89 hb2 ?_
    obtain ⟨hb3, k⟩ := k
    refine U_last dX12_layWalks_156 s_88 hb3 ?_
    refine U_iinc (v := v3 + (1 : Int32)) (L2 := [.ref 68, .int v1, .int v2, .int (v3 + (1 : Int32)), .retAddr 0, .retAddr 0, .retAddr 0, .retAddr 0]) dX12_layWalks_157 (by decide) rfl rfl rfl ?_
    refine V_goto dX12_layWalks_160 ?_
    exact k
theorem lw_copy {E : aE} {P : hI_ → hJ_ → Prop} {I : hI_} {n i : Nat} (hi : i < 100) (k : ∀ J2, (∀ q, q < 25 → J2 88 q = cn I (i + 1) q) → J2 68 32 = pw I (i + 1) → HX12_layWalks_38 E P (nI n) (nI (i + 1)) I J2) : ∀ (m x : Nat) (J : hJ_), x + m = 25 → (∀ q, q < 25 → J 89 q = cn I (i + 1) q) → (∀ q, q < x → J 88 q = cn I (i + 1) q) → J 68 32 = pw I i → HX12_layWalks_139 E P (nI n) (nI i) (nI x) I J
  | 0, x, J, hx, h89, h88, hp => by
    refine wX12_layWalks_139 ?_
    rw [nI_1 i]
    refine ⟨fun _ => k _ (fun q hq => ?_) ?_, fun z => absurd (nI_le (a := 25) (by omega) (by omega)) z⟩
    · rw [upJ_at, if_neg (by omega)]; exact h88 q (by omega)
    · rw [upJ_at, if_pos ⟨rfl, rfl⟩, hp]; rfl
  | m + 1, x, J, hx, h89, h88, hp => by
    have vx : vp_in (nI x) 25 := vp_in_nI (by omega) (by omega)
    refine wX12_layWalks_139 ⟨fun z => absurd z (nI_ge (b := 25) (by omega) (by omega)), fun _ => ⟨vx, vx, ?_⟩⟩
    rw [nI_1 x, nI_clamp (by omega), h89 x (by omega)]
    refine lw_copy hi k m (x + 1) _ (by omega) (fun q hq => ?_) (fun q hq => ?_) ?_
    · rw [upJ_at, if_neg (by omega)]; exact h89 q hq
    · rw [upJ_at]
      by_cases e : q = x
      · rw [if_pos ⟨rfl, e⟩, e]
      · rw [if_neg (fun z => e z.2)]; exact h88 q (by omega)
    · rw [upJ_at, if_neg (by omega)]; exact hp
theorem lw_in {E : aE} {P : hI_ → hJ_ → Prop} {I : hI_} {n i : Nat} (hi : i < 100) (k : ∀ J2, (∀ q, q < 25 → J2 89 q = cn I (i + 1) q) → J2 68 32 = pw I i → HX12_layWalks_139 E P (nI n) (nI i) 0 I J2) : ∀ (m x : Nat) (J : hJ_), x + m = 25 → (∀ q, q < 25 → J 88 q = cn I i q) → (∀ q, q < x → J 89 q = cn I (i + 1) q) → J 68 32 = pw I i → HX12_layWalks_45 E P (nI n) (nI i) (nI x) I J
  | 0, x, J, hx, h88, h89, hp => wX12_layWalks_45 ⟨fun _ => k J (fun q hq => h89 q (by omega)) hp, fun z => absurd (nI_le (a := 25) (by omega) (by omega)) z⟩
  | m + 1, x, J, hx, h88, h89, hp => by
    have vx : vp_in (nI x) 25 := vp_in_nI (by omega) (by omega)
    have e1 : nI x + 1 = nI (x + 1) := nI_1 x
    refine wX12_layWalks_45 ?_
    rw [e1]
    refine ⟨fun z => absurd z (nI_ge (b := 25) (by omega) (by omega)), fun _ => ⟨fun z => ?_, fun z => ?_, vx, vx, ?_⟩⟩
    · cases x with
      | zero => exact absurd (Int32.le_refl 0) z
      | succ x => rw [nI_pred]; exact vp_in_nI (by omega) (by omega)
    · refine vp_in_nI ?_ (by omega)
      rcases Nat.lt_or_ge x 24 with y | y
      · omega
      · exact absurd (nI_le (a := 24) y (by omega)) z
    · have hd : (if (24 : Int32) ≤ nI x then (0 : Int64) else J 88 (nI (x + 1)).toNatClampNeg) = (if 24 ≤ x then 0 else cn I i (x + 1)) := by
        by_cases z : 24 ≤ x
        · rw [if_pos z, if_pos (show (24 : Int32) ≤ nI x from nI_le (a := 24) (by omega) (by omega))]
        · rw [if_neg z, if_neg (show ¬ (24 : Int32) ≤ nI x from nI_ge (b := 24) (by omega) (by omega)), nI_clamp (by omega), h88 _ (by omega)]
      have hu : (if nI x ≤ 0 then (0 : Int64) else J 88 (nI x - 1).toNatClampNeg) = (if x = 0 then 0 else cn I i (x - 1)) := by
        cases x with
        | zero => rw [if_pos (show nI 0 ≤ 0 from Int32.le_refl 0), if_pos rfl]
        | succ x => rw [if_neg (show ¬ nI (x + 1) ≤ 0 from nI_ge (a := 0) (by omega) (by omega)), if_neg (show ¬ x + 1 = 0 by omega), nI_pred, nI_clamp (by omega), h88 _ (by omega), Nat.add_sub_cancel]
      rw [hd, hu, nI_clamp (by omega), h88 x (by omega)]
      refine lw_in hi k m (x + 1) _ (by omega) (fun q hq => ?_) (fun q hq => ?_) ?_
      · rw [upJ_at, if_neg (by omega)]; exact h88 q hq
      · rw [upJ_at]
        by_cases e : q = x
        · rw [if_pos ⟨rfl, e⟩, e]
          have e3 : cn I (i + 1) x = ((I 73 3).toInt64 * (if 24 ≤ x then 0 else cn I i (x + 1)) + (I 73 4).toInt64 * cn I i x) + (I 73 5).toInt64 * (if x = 0 then 0 else cn I i (x - 1)) := rfl
          rw [e3, Int64.mul_comm (I 73 3).toInt64, Int64.mul_comm (I 73 4).toInt64, Int64.mul_comm (I 73 5).toInt64]
        · rw [if_neg (fun z => e z.2)]; exact h89 q (by omega)
      · rw [upJ_at, if_neg (by omega)]; exact hp
theorem lw_out {E : aE} {P : hI_ → hJ_ → Prop} {I : hI_} {n : Nat} (hn : n ≤ 12) (k : ∀ J2, (∀ q, q < 25 → J2 88 q = cn I n q) → J2 68 32 = pw I n → P I J2) : ∀ (m i : Nat) (J : hJ_), i + m = n → (∀ q, q < 25 → J 88 q = cn I i q) → J 68 32 = pw I i → HX12_layWalks_38 E P (nI n) (nI i) I J
  | 0, i, J, hi, h88, hp => by
    have e : i = n := by omega
    subst e
    exact wX12_layWalks_38 ⟨fun _ => k J h88 hp, fun z => absurd (nI_le (by omega) (by omega)) z⟩
  | m + 1, i, J, hi, h88, hp => by
    refine wX12_layWalks_38 ⟨fun z => absurd z (nI_ge (by omega) (by omega)), fun _ => ?_⟩
    refine lw_in (by omega) (fun J2 h2 hp2 => ?_) 25 0 J (by omega) h88 (fun q hq => by omega) hp
    exact lw_copy (by omega) (fun J3 h3 hp3 => lw_out hn k m (i + 1) J3 (by omega) h3 hp3) 25 0 J2 (by omega) h2 (fun q hq => by omega) hp2
theorem lw_0 {E : aE} {P : hI_ → hJ_ → Prop} {I : hI_} {n : Nat} (k : ∀ J2, (∀ q, q < 25 → J2 88 q = cn I 0 q) → J2 68 32 = pw I 0 → HX12_layWalks_38 E P (nI n) 0 I J2) : ∀ (m x : Nat) (J : hJ_), x + m = 25 → (∀ q, q < x → J 88 q = cn I 0 q) → HX12_layWalks_2 E P (nI n) (nI x) I J
  | 0, x, J, hx, h88 => by
    refine wX12_layWalks_2 ⟨fun _ => k _ (fun q hq => ?_) ?_, fun z => absurd (nI_le (a := 25) (by omega) (by omega)) z⟩
    · rw [upJ_at, if_neg (by omega)]; exact h88 q (by omega)
    · rw [upJ_at, if_pos ⟨rfl, rfl⟩]; rfl
  | m + 1, x, J, hx, h88 => by
    have vx : vp_in (nI x) 25 := vp_in_nI (by omega) (by omega)
    refine wX12_layWalks_2 ⟨fun z => absurd z (nI_ge (b := 25) (by omega) (by omega)), fun _ => ⟨vx, ?_⟩⟩
    have ev : (if ¬ nI x = 12 then (0 : Int64) else 1) = cn I 0 x := by
      have e0 : cn I 0 x = if x = 12 then 1 else 0 := rfl
      rw [e0]
      by_cases e : x = 12
      · rw [if_pos e, if_neg (show ¬ ¬ nI x = 12 from fun z => z (by rw [e]; rfl))]
      · rw [if_neg e, if_pos (show ¬ nI x = 12 from fun z => e ((nI_eq (b := 12) (by omega) (by omega)).mp z))]
    rw [ev, nI_1 x, nI_clamp (by omega)]
    refine lw_0 k m (x + 1) _ (by omega) (fun q hq => ?_)
    rw [upJ_at]
    by_cases e : q = x
    · rw [if_pos ⟨rfl, e⟩, e]
    · rw [if_neg (fun z => e z.2)]; exact h88 q (by omega)
theorem tX12_layWalks {E : aE} {P : hI_ → hJ_ → Prop} {I : hI_} {J : hJ_} {n : Nat} (hn : n ≤ 12) (k : ∀ J2, (∀ q, q < 25 → J2 88 q = cn I n q) → J2 68 32 = pw I n → P I J2) : CallV E mX12_layWalks [.ref 68, .int (nI n)] SH I J P := wX12_layWalks (lw_0 (fun J2 h1 h2 => lw_out hn k n 0 J2 (by omega) h1 h2) 25 0 J (by omega) (fun q hq => by omega))
