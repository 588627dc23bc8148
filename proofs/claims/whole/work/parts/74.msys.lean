def HX12_system_19 (E : aE) (P : Int32 → hI_ → hJ_ → Prop) (v1 : Int32) (v2 : Int32) (I : hI_) (J : hJ_) : Prop := V E mX12_system (kI SH P) 19 [.ref 68, .int v1, .int v2] [] (SH, I, J) (0, 0)
def HX12_system_45 (E : aE) (P : Int32 → hI_ → hJ_ → Prop) (v1 : Int32) (v2 : Int32) (I : hI_) (J : hJ_) : Prop := V E mX12_system (kI SH P) 45 [.ref 68, .int v1, .int v2] [] (SH, I, J) (0, 0)
def HX12_system_68 (E : aE) (P : Int32 → hI_ → hJ_ → Prop) (v1 : Int32) (I : hI_) (J : hJ_) : Prop := V E mX12_system (kI SH P) 68 [.ref 68, .int v1, .retAddr 0] [] (SH, I, J) (0, 0)
def HX12_system_122 (E : aE) (P : Int32 → hI_ → hJ_ → Prop) (v1 : Int32) (v2 : Int32) (I : hI_) (J : hJ_) : Prop := V E mX12_system (kI SH P) 122 [.ref 68, .int v1, .int v2] [] (SH, I, J) (0, 0)
def HX12_system_200 (E : aE) (P : Int32 → hI_ → hJ_ → Prop) (v1 : Int32) (v2 : Int32) (I : hI_) (J : hJ_) : Prop := V E mX12_system (kI SH P) 200 [.ref 68, .int v1, .int v2] [] (SH, I, J) (0, 0)
set_option maxHeartbeats 4000000 in
set_option maxRecDepth 20000 in
theorem wX12_system {E : aE} {P : Int32 → hI_ → hJ_ → Prop} {I : hI_} {J : hJ_}  (k : HX12_system_19 E P (0 : Int32) (0 : Int32) (upI (upI (upI I 68 3 (0 : Int32)) 68 5 (0 : Int32)) 68 20 (0 : Int32)) J) : CallI E mX12_system [.ref 68] SH I J P := by
  refine Call_of (L := [.ref 68, .retAddr 0, .retAddr 0]) ok_X12_system.1 rfl rfl ?_
  refine V_aload_n dX12_system_0 rfl ?_
  refine V_iconst (v := (0 : Int32)) dX12_system_1 rfl ?_
  refine U_putI dX12_system_2 fp_X12_95 s_68 rfl ?_
  refine V_aload_n dX12_system_5 rfl ?_
  refine V_iconst (v := (0 : Int32)) dX12_system_6 rfl ?_
  refine U_putI dX12_system_7 fp_X12_107 s_68 rfl ?_
  refine V_aload_n dX12_system_10 rfl ?_
  refine V_iconst (v := (0 : Int32)) dX12_system_11 rfl ?_
  refine U_putI dX12_system_12 fp_X12_139 s_68 rfl ?_
  refine V_iconst (v := (0 : Int32)) dX12_system_15 rfl ?_
  refine U_istore_n (L2 := [.ref 68, .int (0 : Int32), .retAddr 0]) dX12_system_16 (by decide) rfl ?_
  refine V_iconst (v := (0 : Int32)) dX12_system_17 rfl ?_
  refine U_istore_n (L2 := [.ref 68, .int (0 : Int32), .int (0 : Int32)]) dX12_system_18 (by decide) rfl ?_
  exact k
set_option maxHeartbeats 4000000 in
set_option maxRecDepth 20000 in
theorem wX12_system_19 {E : aE} {P : Int32 → hI_ → hJ_ → Prop} {I : hI_} {J : hJ_} {v1 : Int32} {v2 : Int32} (k : (((8 : Int32) ≤ v2 → HX12_system_45 E P v1 (0 : Int32) I J) ∧ (¬ ((8 : Int32) ≤ v2) → (vp_in v2 8) ∧ (vp_in v2 8) ∧ HX12_system_19 E P v1 (v2 + (1 : Int32)) (upI I 77 v2.toNatClampNeg (I 72 v2.toNatClampNeg)) J))) : HX12_system_19 E P v1 v2 I J := by
  show V E mX12_system (kI SH P) 19 [.ref 68, .int v1, .int v2] [] (SH, I, J) (0, 0)
  refine V_iload_n dX12_system_19 rfl ?_
  refine V_bipush (v := (8 : Int32)) dX12_system_20 rfl ?_
  refine V_icmp_ge dX12_system_22 (fun c1 => ?_) (fun c1 => ?_)
  · have k := k.1 c1
    refine V_iconst (v := (0 : Int32)) dX12_system_43 rfl ?_
    refine U_istore_n (L2 := [.ref 68, .int v1, .int (0 : Int32)]) dX12_system_44 (by decide) rfl ?_
    exact k
  · have k := k.2 c1
    refine V_aload_n dX12_system_25 rfl ?_
    refine U_getR dX12_system_26 fl_X12_34 s_68 rfl ?_
    refine V_iload_n dX12_system_29 rfl ?_
    refine V_aload_n dX12_system_30 rfl ?_
    refine U_getR dX12_system_31 fl_X12_19 s_68 rfl ?_
    refine V_iload_n dX12_system_34 rfl ?_
    obtain ⟨hb2, k⟩ := k
    refine U_iald dX12_system_35 s_72 hb2 ?_
    obtain ⟨hb3, k⟩ := k
    refine U_iast dX12_system_36 s_77 hb3 ?_
    refine U_iinc (v := v2 + (1 : Int32)) (L2 := [.ref 68, .int v1, .int (v2 + (1 : Int32))]) dX12_system_37 (by decide) rfl rfl rfl ?_
    refine V_goto dX12_system_40 ?_
    exact k
set_option maxHeartbeats 4000000 in
set_option maxRecDepth 20000 in
theorem wX12_system_45 {E : aE} {P : Int32 → hI_ → hJ_ → Prop} {I : hI_} {J : hJ_} {v1 : Int32} {v2 : Int32} (k : (((25 : Int32) ≤ v2 → CallV E mX12_next [.ref 68] SH I J (fun I3 J4 => HX12_system_68 E P v1 I3 J4)) ∧ (¬ ((25 : Int32) ≤ v2) → (vp_in v2 25) ∧ HX12_system_45 E P v1 (v2 + (1 : Int32)) (upI I 79 v2.toNatClampNeg (0 : Int32)) J))) : HX12_system_45 E P v1 v2 I J := by
  show V E mX12_system (kI SH P) 45 [.ref 68, .int v1, .int v2] [] (SH, I, J) (0, 0)
  refine V_iload_n dX12_system_45 rfl ?_
  refine V_bipush (v := (25 : Int32)) dX12_system_46 rfl ?_
  refine V_icmp_ge dX12_system_48 (fun c1 => ?_) (fun c1 => ?_)
  · have k := k.1 c1
    refine V_aload_n dX12_system_64 rfl ?_
    refine U_callV0 [] dX12_system_65 ov_X12_133 s_68 rfl ⟨rfl, rfl, rfl⟩ rfl rfl rfl (CallV_mono k (fun I3 J4 k => ?_))
    exact V_wk (wk_eq (wk_eq (wk_j (wk_nil)))) k
  · have k := k.2 c1
    refine V_aload_n dX12_system_51 rfl ?_
    refine U_getR dX12_system_52 fl_X12_40 s_68 rfl ?_
    refine V_iload_n dX12_system_55 rfl ?_
    refine V_iconst (v := (0 : Int32)) dX12_system_56 rfl ?_
    obtain ⟨hb5, k⟩ := k
    refine U_iast dX12_system_57 s_79 hb5 ?_
    refine U_iinc (v := v2 + (1 : Int32)) (L2 := [.ref 68, .int v1, .int (v2 + (1 : Int32))]) dX12_system_58 (by decide) rfl rfl rfl ?_
    refine V_goto dX12_system_61 ?_
    exact k
set_option maxHeartbeats 4000000 in
set_option maxRecDepth 20000 in
theorem wX12_system_68 {E : aE} {P : Int32 → hI_ → hJ_ → Prop} {I : hI_} {J : hJ_} {v1 : Int32} (k : ((¬ (I 68 3) = (0 : Int32) → (((I 68 3) ≤ (0 : Int32) → HX12_system_122 E P v1 (0 : Int32) (upI (upI I 68 1 (0 : Int32)) 68 2 (I 68 3)) J) ∧ (¬ ((I 68 3) ≤ (0 : Int32)) → P ((-10 : Int32) - (I 68 4)) (upI (upI I 68 1 (0 : Int32)) 68 2 (I 68 3)) J))) ∧ ((I 68 3) = (0 : Int32) → (((I 68 7) = (0 : Int32) → (((I 68 3) ≤ (0 : Int32) → HX12_system_122 E P v1 (0 : Int32) (upI (upI I 68 1 (0 : Int32)) 68 2 (I 68 3)) J) ∧ (¬ ((I 68 3) ≤ (0 : Int32)) → P ((-10 : Int32) - (I 68 4)) (upI (upI I 68 1 (0 : Int32)) 68 2 (I 68 3)) J))) ∧ (¬ ((I 68 7) = (0 : Int32)) → CallV E mX12_readLine [.ref 68] SH I J (fun I6 J7 => HX12_system_68 E P (v1 + (1 : Int32)) I6 J7)))))) : HX12_system_68 E P v1 I J := by
  show V E mX12_system (kI SH P) 68 [.ref 68, .int v1, .retAddr 0] [] (SH, I, J) (0, 0)
  refine V_aload_n dX12_system_68 rfl ?_
  refine U_getI dX12_system_69 fl_X12_95 s_68 rfl ?_
  refine V_if_ne dX12_system_72 (fun c1 => ?_) (fun c1 => ?_)
  · have k := k.1 c1
    refine V_aload_n dX12_system_92 rfl ?_
    refine V_iconst (v := (0 : Int32)) dX12_system_93 rfl ?_
    refine U_putI dX12_system_94 fp_X12_87 s_68 rfl ?_
    refine V_aload_n dX12_system_97 rfl ?_
    refine V_aload_n dX12_system_98 rfl ?_
    refine U_getIx (x := I 68 3) dX12_system_99 fl_X12_95 s_68 rfl rfl ?_
    refine U_putI dX12_system_102 fp_X12_160 s_68 rfl ?_
    refine V_aload_n dX12_system_105 rfl ?_
    refine U_getIx (x := I 68 3) dX12_system_106 fl_X12_95 s_68 rfl rfl ?_
    refine V_if_le dX12_system_109 (fun c2 => ?_) (fun c2 => ?_)
    · have k := k.1 c2
      refine V_iconst (v := (0 : Int32)) dX12_system_120 rfl ?_
      refine U_istore_n (L2 := [.ref 68, .int v1, .int (0 : Int32)]) dX12_system_121 (by decide) rfl ?_
      exact k
    · have k := k.2 c2
      refine V_bipush (v := (-10 : Int32)) dX12_system_112 rfl ?_
      refine V_aload_n dX12_system_114 rfl ?_
      refine U_getIx (x := I 68 4) dX12_system_115 fl_X12_101 s_68 rfl rfl ?_
      refine V_isub dX12_system_118 ?_
      exact V_iret dX12_system_119 ⟨_, rfl, rfl⟩ rfl rfl ⟨_, _, _, rfl, rfl, k⟩
  · have k := k.2 c1
    refine V_aload_n dX12_system_75 rfl ?_
    refine U_getI dX12_system_76 fl_X12_104 s_68 rfl ?_
    refine V_if_eq dX12_system_79 (fun c3 => ?_) (fun c3 => ?_)
    · have k := k.1 c3
      refine V_aload_n dX12_system_92 rfl ?_
      refine V_iconst (v := (0 : Int32)) dX12_system_93 rfl ?_
      refine U_putI dX12_system_94 fp_X12_87 s_68 rfl ?_
      refine V_aload_n dX12_system_97 rfl ?_
      refine V_aload_n dX12_system_98 rfl ?_
      refine U_getIx (x := I 68 3) dX12_system_99 fl_X12_95 s_68 rfl rfl ?_
      refine U_putI dX12_system_102 fp_X12_160 s_68 rfl ?_
      refine V_aload_n dX12_system_105 rfl ?_
      refine U_getIx (x := I 68 3) dX12_system_106 fl_X12_95 s_68 rfl rfl ?_
      refine V_if_le dX12_system_109 (fun c4 => ?_) (fun c4 => ?_)
      · have k := k.1 c4
        refine V_iconst (v := (0 : Int32)) dX12_system_120 rfl ?_
        refine U_istore_n (L2 := [.ref 68, .int v1, .int (0 : Int32)]) dX12_system_121 (by decide) rfl ?_
        exact k
      · have k := k.2 c4
        refine V_bipush (v := (-10 : Int32)) dX12_system_112 rfl ?_
        refine V_aload_n dX12_system_114 rfl ?_
        refine U_getIx (x := I 68 4) dX12_system_115 fl_X12_101 s_68 rfl rfl ?_
        refine V_isub dX12_system_118 ?_
        exact V_iret dX12_system_119 ⟨_, rfl, rfl⟩ rfl rfl ⟨_, _, _, rfl, rfl, k⟩
    · have k := k.2 c3
      refine V_aload_n dX12_system_82 rfl ?_
      refine U_callV0 [] dX12_system_83 ov_X12_157 s_68 rfl ⟨rfl, rfl, rfl⟩ rfl rfl rfl (CallV_mono k (fun I6 J7 k => ?_))
      refine U_iinc (v := v1 + (1 : Int32)) (L2 := [.ref 68, .int (v1 + (1 : Int32)), .retAddr 0]) dX12_system_86 (by decide) rfl rfl rfl ?_
      refine V_goto dX12_system_89 ?_
      exact k
set_option maxHeartbeats 4000000 in
set_option maxRecDepth 20000 in
theorem wX12_system_122 {E : aE} {P : Int32 → hI_ → hJ_ → Prop} {I : hI_} {J : hJ_} {v1 : Int32} {v2 : Int32} (k : (((48 : Int32) ≤ v2 → HX12_system_200 E P v1 (0 : Int32) I J) ∧ (¬ ((48 : Int32) ≤ v2) → (vp_in (v2 - v2 / (8 : Int32) * (8 : Int32)) 8) ∧ (vp_in (v2 - v2 / (8 : Int32) * (8 : Int32)) 8) ∧ (vp_in (v2 - v2 / (5 : Int32) * (5 : Int32)) 5) ∧ (vp_in (v2 - v2 / (5 : Int32) * (5 : Int32)) 5) ∧ (vp_in (v2 - v2 / (25 : Int32) * (25 : Int32)) 25) ∧ (vp_in (v2 - v2 / (25 : Int32) * (25 : Int32)) 25) ∧ (vp_in v2 48) ∧ (vp_in v2 48) ∧ HX12_system_122 E P v1 (v2 + (1 : Int32)) (upI (upI (upI (upI I 73 ((v2 - v2 / (8 : Int32) * (8 : Int32)).toNatClampNeg) (I 77 (v2 - v2 / (8 : Int32) * (8 : Int32)).toNatClampNeg)) 74 ((v2 - v2 / (5 : Int32) * (5 : Int32)).toNatClampNeg) (I 78 (v2 - v2 / (5 : Int32) * (5 : Int32)).toNatClampNeg)) 75 ((v2 - v2 / (25 : Int32) * (25 : Int32)).toNatClampNeg) (I 79 (v2 - v2 / (25 : Int32) * (25 : Int32)).toNatClampNeg)) 76 v2.toNatClampNeg (I 80 v2.toNatClampNeg)) J))) : HX12_system_122 E P v1 v2 I J := by
  show V E mX12_system (kI SH P) 122 [.ref 68, .int v1, .int v2] [] (SH, I, J) (0, 0)
  refine V_iload_n dX12_system_122 rfl ?_
  refine V_bipush (v := (48 : Int32)) dX12_system_123 rfl ?_
  refine V_icmp_ge dX12_system_125 (fun c1 => ?_) (fun c1 => ?_)
  · have k := k.1 c1
    refine V_iconst (v := (0 : Int32)) dX12_system_198 rfl ?_
    refine U_istore_n (L2 := [.ref 68, .int v1, .int (0 : Int32)]) dX12_system_199 (by decide) rfl ?_
    exact k
  · have k := k.2 c1
    refine V_aload_n dX12_system_128 rfl ?_
    refine U_getR dX12_system_129 fl_X12_22 s_68 rfl ?_
    refine V_iload_n dX12_system_132 rfl ?_
    refine V_bipush (v := (8 : Int32)) dX12_system_133 rfl ?_
    refine V_irem dX12_system_135 (by decide) ?_
    refine V_aload_n dX12_system_136 rfl ?_
    refine U_getR dX12_system_137 fl_X12_34 s_68 rfl ?_
    refine V_iload_n dX12_system_140 rfl ?_
    refine V_bipush (v := (8 : Int32)) dX12_system_141 rfl ?_
    refine V_irem dX12_system_143 (by decide) ?_
    obtain ⟨hb2, k⟩ := k
    refine U_iald dX12_system_144 s_77 hb2 ?_
    obtain ⟨hb3, k⟩ := k
    refine U_iast dX12_system_145 s_73 hb3 ?_
    refine V_aload_n dX12_system_146 rfl ?_
    refine U_getR dX12_system_147 fl_X12_25 s_68 rfl ?_
    refine V_iload_n dX12_system_150 rfl ?_
    refine V_iconst (v := (5 : Int32)) dX12_system_151 rfl ?_
    refine V_irem dX12_system_152 (by decide) ?_
    refine V_aload_n dX12_system_153 rfl ?_
    refine U_getR dX12_system_154 fl_X12_37 s_68 rfl ?_
    refine V_iload_n dX12_system_157 rfl ?_
    refine V_iconst (v := (5 : Int32)) dX12_system_158 rfl ?_
    refine V_irem dX12_system_159 (by decide) ?_
    obtain ⟨hb4, k⟩ := k
    refine U_ialdx (x := I 78 (v2 - v2 / (5 : Int32) * (5 : Int32)).toNatClampNeg) dX12_system_160 s_78 hb4 rfl ?_
    obtain ⟨hb5, k⟩ := k
    refine U_iast dX12_system_161 s_74 hb5 ?_
    refine V_aload_n dX12_system_162 rfl ?_
    refine U_getR dX12_system_163 fl_X12_28 s_68 rfl ?_
    refine V_iload_n dX12_system_166 rfl ?_
    refine V_bipush (v := (25 : Int32)) dX12_system_167 rfl ?_
    refine V_irem dX12_system_169 (by decide) ?_
    refine V_aload_n dX12_system_170 rfl ?_
    refine U_getR dX12_system_171 fl_X12_40 s_68 rfl ?_
    refine V_iload_n dX12_system_174 rfl ?_
    refine V_bipush (v := (25 : Int32)) dX12_system_175 rfl ?_
    refine V_irem dX12_system_177 (by decide) ?_
    obtain ⟨hb6, k⟩ := k
    refine U_ialdx (x := I 79 (v2 - v2 / (25 : Int32) * (25 : Int32)).toNatClampNeg) dX12_system_178 s_79 hb6 rfl ?_
    obtain ⟨hb7, k⟩ := k
    refine U_iast dX12_system_179 s_75 hb7 ?_
    refine V_aload_n dX12_system_180 rfl ?_
    refine U_getR dX12_system_181 fl_X12_31 s_68 rfl ?_
    refine V_iload_n dX12_system_184 rfl ?_
    refine V_aload_n dX12_system_185 rfl ?_
    refine U_getR dX12_system_186 fl_X12_43 s_68 rfl ?_
    refine V_iload_n dX12_system_189 rfl ?_
    obtain ⟨hb8, k⟩ := k
    refine U_ialdx (x := I 80 v2.toNatClampNeg) dX12_system_190 s_80 hb8 rfl ?_
    obtain ⟨hb9, k⟩ := k
    refine U_iast dX12_system_191 s_76 hb9 ?_
    refine U_iinc (v := v2 + (1 : Int32)) (L2 := [.ref 68, .int v1, .int (v2 + (1 : Int32))]) dX12_system_192 (by decide) rfl rfl rfl ?_
    refine V_goto dX12_system_195 ?_
    exact k
set_option maxHeartbeats 4000000 in
set_option maxRecDepth 20000 in
theorem wX12_system_200 {E : aE} {P : Int32 → hI_ → hJ_ → Prop} {I : hI_} {J : hJ_} {v1 : Int32} {v2 : Int32} (k : (((3 : Int32) ≤ v2 → P v1 (upI (upI I 90 0 (0 : Int32)) 90 1 (0 : Int32)) J) ∧ (¬ ((3 : Int32) ≤ v2) → (vp_in ((280 : Int32) + v2) 900) ∧ HX12_system_200 E P v1 (v2 + (1 : Int32)) (upI I 82 (((280 : Int32) + v2).toNatClampNeg) (0 : Int32)) J))) : HX12_system_200 E P v1 v2 I J := by
  show V E mX12_system (kI SH P) 200 [.ref 68, .int v1, .int v2] [] (SH, I, J) (0, 0)
  refine V_iload_n dX12_system_200 rfl ?_
  refine V_iconst (v := (3 : Int32)) dX12_system_201 rfl ?_
  refine V_icmp_ge dX12_system_202 (fun c1 => ?_) (fun c1 => ?_)
  · have k := k.1 c1
    refine V_aload_n dX12_system_222 rfl ?_
    refine U_getR dX12_system_223 fl_X12_75 s_68 rfl ?_
    refine V_iconst (v := (0 : Int32)) dX12_system_226 rfl ?_
    refine V_iconst (v := (0 : Int32)) dX12_system_227 rfl ?_
    refine U_zast dX12_system_228 (by decide) s_90 (by unfold vp_in; decide) ?_
    refine V_aload_n dX12_system_229 rfl ?_
    refine U_getR dX12_system_230 fl_X12_75 s_68 rfl ?_
    refine V_iconst (v := (1 : Int32)) dX12_system_233 rfl ?_
    refine V_iconst (v := (0 : Int32)) dX12_system_234 rfl ?_
    refine U_zast dX12_system_235 (by decide) s_90 (by unfold vp_in; decide) ?_
    refine V_iload_n dX12_system_236 rfl ?_
    exact V_iret dX12_system_237 ⟨_, rfl, rfl⟩ rfl rfl ⟨_, _, _, rfl, rfl, k⟩
  · have k := k.2 c1
    refine V_aload_n dX12_system_205 rfl ?_
    refine U_getR dX12_system_206 fl_X12_49 s_68 rfl ?_
    refine V_sipush (v := (280 : Int32)) dX12_system_209 rfl ?_
    refine V_iload_n dX12_system_212 rfl ?_
    refine V_iadd dX12_system_213 ?_
    refine V_iconst (v := (0 : Int32)) dX12_system_214 rfl ?_
    obtain ⟨hb2, k⟩ := k
    refine U_iast dX12_system_215 s_82 hb2 ?_
    refine U_iinc (v := v2 + (1 : Int32)) (L2 := [.ref 68, .int v1, .int (v2 + (1 : Int32))]) dX12_system_216 (by decide) rfl rfl rfl ?_
    refine V_goto dX12_system_219 ?_
    exact k
theorem stB_pars {n : Nat} {B : Nat → Nat} {f k l : Nat} {D : Nat → Nat} (h0 : tK n B k ≠ 0) (h4 : tK n B k ≠ 4) (hs : (stepB n B k D).1 ≠ 0) : (pars n B (f + 1) k l D).1 = (stepB n B k D).1 ∧ (pars n B (f + 1) k l D).2.1 = (stepB n B k D).2 := by
  rw [pars_s, if_neg h0, if_neg h4]
  unfold stepB at hs ⊢
  by_cases z1 : tK n B k = 1
  · rw [if_pos z1] at hs ⊢
    rw [if_pos z1]
    by_cases z2 : (line n B k D).1 = 0
    · rw [if_pos z2] at hs ⊢
      rw [if_pos z2]
      by_cases z3 : tK n B (line n B k D).2.2.1 = 4
      · rw [if_pos z3, if_pos z3]; exact ⟨rfl, rfl⟩
      · rw [if_neg z3] at hs ⊢
        rw [if_neg z3]
        by_cases z4 : tK n B (line n B k D).2.2.1 = 3
        · rw [if_pos z4] at hs; exact absurd rfl hs
        · rw [if_neg z4, if_neg z4]; exact ⟨rfl, rfl⟩
    · rw [if_neg z2, if_neg z2]; exact ⟨rfl, rfl⟩
  · rw [if_neg z1, if_neg z1]; exact ⟨rfl, rfl⟩
theorem stG_pars {n : Nat} {B : Nat → Nat} {f k l : Nat} {D : Nat → Nat} (z1 : tK n B k = 1) (z2 : (line n B k D).1 = 0) (z3 : tK n B (line n B k D).2.2.1 = 3) : pars n B (f + 1) k l D = pars n B f (tE n B (line n B k D).2.2.1) (l + 1) (line n B k D).2.2.2 := by
  rw [pars_s, if_neg (by omega), if_neg (by omega), if_pos z1, if_pos z2, if_neg (by omega), if_pos z3]
theorem sysM_loop {E : aE} {P : Int32 → hI_ → hJ_ → Prop} {n : Nat} {B : Nat → Nat} {I0 : hI_} {J : hJ_} (h : MB n B I0) (hC : RConst (I0 70) (I0 71) (I0 72)) {r : Nat × Nat × Nat × (Nat → Nat)} (kb : r.1 ≠ 0 → ∀ I2, frQ I0 I2 → P ((-10) - nI r.2.1) (upI (upI I2 68 1 0) 68 2 (nI r.1)) J) (kg : r.1 = 0 → ∀ I2, frQ I0 I2 → MD r.2.2.2 I2 → HX12_system_122 E P (nI r.2.2.1) 0 (upI (upI I2 68 1 0) 68 2 0) J) : ∀ (f k l : Nat) (D : Nat → Nat) (I : hI_), frQ I0 I → MT n B k I → (tK n B k ≠ 4 → MD D I) → DOK D → k ≤ n → n + 1 - k ≤ f → pars n B f k l D = r → HX12_system_68 E P (nI l) I J
  | 0, k, l, D, I, hf, hT, hD, ok, hk, hfu, hr => by omega
  | f + 1, k, l, D, I, hf, hT, hD, ok, hk, hfu, hr => by
    have hn := h.2.1
    have hs := tS_b (B := B) hk
    have he := tE_b (B := B) hk
    have k4 := tK_4 n B k
    have bad : ∀ (c s : Nat) (v : Int32) (I2 : hI_), frQ I0 I2 → I2 68 3 = nI c → I2 68 4 = nI s → 0 < c → c < 100 → r.1 = c → r.2.1 = s → HX12_system_68 E P v I2 J := fun c s v I2 f2 a3 a4 c1 c2 e1 e2 => by
      have n0 := wr_ne a3 c1 c2
      refine wX12_system_68 ⟨fun _ => ⟨fun y => ?_, fun _ => ?_⟩, fun y => absurd y n0⟩
      · rw [a3] at y
        have := (nI_leJ (b := 0) (by omega) (by omega)).mp y
        omega
      · have := kb (by omega) I2 f2
        rw [e1, e2] at this
        rw [a3, a4]; exact this
    by_cases z4 : tK n B k = 4
    · obtain ⟨a3, a4⟩ := hT.2.2.1 z4
      rw [pars_s, if_neg (by omega), if_pos z4] at hr
      exact bad 1 (tS n B k) _ I hf a3 a4 (by omega) (by omega) (by rw [← hr]) (by rw [← hr])
    · obtain ⟨a3, a7, a8⟩ := hT.2.2.2 z4
      have e0 : (nI (tK n B k) = 0) ↔ tK n B k = 0 := nI_eqI (b := 0) (by omega) (by omega)
      refine wX12_system_68 ⟨fun y => absurd a3 y, fun _ => ?_⟩
      rw [a7]
      refine ⟨fun z0 => ⟨fun _ => ?_, fun y => absurd (by rw [a3]; exact Int32.le_refl _) y⟩, fun z0 => ?_⟩
      · rw [pars_s, if_pos (e0.mp z0)] at hr
        rw [← hr] at kg
        rw [a3]
        exact kg rfl I hf (hD z4)
      · have z0 : ¬ tK n B k = 0 := fun y => z0 (e0.mpr y)
        have hC1 : RConst (I 70) (I 71) (I 72) := by rw [hf.1 70 (by omega), hf.1 71 (by omega), hf.1 72 (by omega)]; exact hC
        refine tX12_readLine (MB_Q h hf) hC1 hk hT z4 (hD z4) ok (fun t1 t2 t3 I2 f2 hT2 hD2 => ?_) (fun t1 I2 f2 b3 b4 => ?_)
        · obtain ⟨okl, l1, l2⟩ := line_ok (B := B) (k0 := k) ok hk t2
          have he4 := tE_b (B := B) l2
          have hs4 := tS_b (B := B) l2
          have b1 := he.2.2 z0
          have b2 := he4.2.2 (by omega)
          rw [stG_pars t1 t2 t3] at hr
          rw [nI_1 l]
          exact sysM_loop h hC kb kg f _ (l + 1) _ I2 (frQ_tr hf f2) hT2 (fun _ => hD2) okl he4.2.1 (by omega) hr
        · have sp := stB_pars (f := f) (l := l) z0 z4 t1
          rw [hr] at sp
          have lt : (stepB n B k D).1 < 100 := by
            have ll := line_le n B k D
            unfold stepB
            by_cases y1 : tK n B k = 1
            · rw [if_pos y1]
              by_cases y2 : (line n B k D).1 = 0
              · rw [if_pos y2]
                by_cases y3 : tK n B (line n B k D).2.2.1 = 4
                · rw [if_pos y3]; show (1 : Nat) < 100; omega
                · rw [if_neg y3]
                  by_cases y4 : tK n B (line n B k D).2.2.1 = 3
                  · rw [if_pos y4]; show (0 : Nat) < 100; omega
                  · rw [if_neg y4]; show (2 : Nat) < 100; omega
              · rw [if_neg y2]; show (line n B k D).1 < 100; omega
            · rw [if_neg y1]; show (2 : Nat) < 100; omega
          exact bad _ _ _ I2 (frQ_tr hf f2) b3 b4 (by omega) lt sp.1 sp.2
theorem plai_D : ∀ j, j < 8 → plaiL.getD j 0 = nI (D0 j) := by decide +kernel
/-- the model's cells behind a good text -/
def SYS (D : Nat → Nat) (I I2 : hI_) : Prop := (∀ a, (a < 68 ∨ (69 ≤ a ∧ a < 73) ∨ a = 81 ∨ (83 ≤ a ∧ a < 90) ∨ 91 ≤ a) → I2 a = I a) ∧ (I2 68 1 = 0 ∧ I2 68 2 = 0 ∧ I2 68 37 = I 68 37) ∧ ((∀ j, j < 8 → I2 73 j = nI (D j)) ∧ (∀ i, i < D 0 → I2 74 i = nI (D (20 + i))) ∧ (∀ k, k < 25 → I2 75 k = nI (D (40 + k))) ∧ ∀ j, j < 4 * D 2 → I2 76 j = nI (D (100 + j))) ∧ (I2 82 280 = 0 ∧ I2 82 281 = 0 ∧ I2 82 282 = 0) ∧ I2 90 0 = 0 ∧ I2 90 1 = 0
theorem rem_48 : ∀ m, m < 48 → nI m - nI m / 8 * 8 = nI (m % 8) ∧ nI m - nI m / 5 * 5 = nI (m % 5) ∧ nI m - nI m / 25 * 25 = nI (m % 25) := by decide +kernel
theorem sys200 {E : aE} {P : Int32 → hI_ → hJ_ → Prop} {I : hI_} {J : hJ_} {v : Int32} (k : P v (upI (upI (upI (upI (upI I 82 280 0) 82 281 0) 82 282 0) 90 0 0) 90 1 0) J) : HX12_system_200 E P v 0 I J := by
  refine wX12_system_200 ⟨fun z => absurd z (by decide), fun _ => ⟨show vp_in (nI 280) 900 from vp_in_nI (by omega) (by omega), ?_⟩⟩
  refine wX12_system_200 ⟨fun z => absurd z (by decide), fun _ => ⟨show vp_in (nI 281) 900 from vp_in_nI (by omega) (by omega), ?_⟩⟩
  refine wX12_system_200 ⟨fun z => absurd z (by decide), fun _ => ⟨show vp_in (nI 282) 900 from vp_in_nI (by omega) (by omega), ?_⟩⟩
  exact wX12_system_200 ⟨fun _ => k, fun z => absurd (by decide) z⟩
theorem sys122_loop {E : aE} {P : Int32 → hI_ → hJ_ → Prop} {I0 : hI_} {J : hJ_} {v : Int32} (k : ∀ I2, (∀ a, (a < 73 ∨ 77 ≤ a) → I2 a = I0 a) → (∀ j, j < 8 → I2 73 j = I0 77 j) → (∀ j, j < 5 → I2 74 j = I0 78 j) → (∀ j, j < 25 → I2 75 j = I0 79 j) → (∀ j, j < 48 → I2 76 j = I0 80 j) → HX12_system_200 E P v 0 I2 J) : ∀ (q m : Nat) (I : hI_), m + q = 48 → (∀ a, (a < 73 ∨ 77 ≤ a) → I a = I0 a) → (∀ j, j < 8 → j < m → I 73 j = I0 77 j) → (∀ j, j < 5 → j < m → I 74 j = I0 78 j) → (∀ j, j < 25 → j < m → I 75 j = I0 79 j) → (∀ j, j < m → I 76 j = I0 80 j) → HX12_system_122 E P v (nI m) I J
  | 0, m, I, hm, h0, h1, h2, h3, h4 => by
    refine wX12_system_122 ⟨fun _ => k I h0 (fun j hj => h1 j hj (by omega)) (fun j hj => h2 j hj (by omega)) (fun j hj => h3 j hj (by omega)) (fun j hj => h4 j (by omega)), fun z => absurd (nI_le (a := 48) (by omega) (by omega)) z⟩
  | q + 1, m, I, hm, h0, h1, h2, h3, h4 => by
    obtain ⟨r1, r2, r3⟩ := rem_48 m (by omega)
    have m8 : m % 8 < 8 := Nat.mod_lt _ (by omega)
    have m5 : m % 5 < 5 := Nat.mod_lt _ (by omega)
    have m25 : m % 25 < 25 := Nat.mod_lt _ (by omega)
    refine wX12_system_122 ⟨fun z => absurd z (nI_ge (b := 48) (by omega) (by omega)), fun _ => ?_⟩
    rw [r1, r2, r3, nI_clamp (n := m % 8) (by omega), nI_clamp (n := m % 5) (by omega), nI_clamp (n := m % 25) (by omega), nI_clamp (n := m) (by omega), nI_1 m]
    refine ⟨vp_in_nI m8 (by omega), vp_in_nI m8 (by omega), vp_in_nI m5 (by omega), vp_in_nI m5 (by omega), vp_in_nI m25 (by omega), vp_in_nI m25 (by omega), vp_in_nI (by omega) (by omega), vp_in_nI (by omega) (by omega), ?_⟩
    refine sys122_loop k q (m + 1) _ (by omega) (fun a ha => ?_) (fun j hj hj2 => ?_) (fun j hj hj2 => ?_) (fun j hj hj2 => ?_) (fun j hj2 => ?_)
    · rw [← h0 a ha]; funext j
      rw [upI_at, if_neg (by omega), upI_at, if_neg (by omega), upI_at, if_neg (by omega), upI_at, if_neg (by omega)]
    · rw [upI_at, if_neg (by omega), upI_at, if_neg (by omega), upI_at, if_neg (by omega), upI_at]
      by_cases w : j = m % 8
      · rw [if_pos ⟨rfl, w⟩, w, h0 77 (by omega)]
      · rw [if_neg (fun u => w u.2)]
        refine h1 j hj ?_
        by_cases e : j = m
        · rw [e, Nat.mod_eq_of_lt (by omega)] at w; exact absurd rfl w
        · omega
    · rw [upI_at, if_neg (by omega), upI_at, if_neg (by omega), upI_at]
      by_cases w : j = m % 5
      · rw [if_pos ⟨rfl, w⟩, w, h0 78 (by omega)]
      · rw [if_neg (fun u => w u.2), upI_at, if_neg (by omega)]
        refine h2 j hj ?_
        by_cases e : j = m
        · rw [e, Nat.mod_eq_of_lt (by omega)] at w; exact absurd rfl w
        · omega
    · rw [upI_at, if_neg (by omega), upI_at]
      by_cases w : j = m % 25
      · rw [if_pos ⟨rfl, w⟩, w, h0 79 (by omega)]
      · rw [if_neg (fun u => w u.2), upI_at, if_neg (by omega), upI_at, if_neg (by omega)]
        refine h3 j hj ?_
        by_cases e : j = m
        · rw [e, Nat.mod_eq_of_lt (by omega)] at w; exact absurd rfl w
        · omega
    · rw [upI_at]
      by_cases w : j = m
      · rw [if_pos ⟨rfl, w⟩, w, h0 80 (by omega)]
      · rw [if_neg (fun u => w u.2), upI_at, if_neg (by omega), upI_at, if_neg (by omega), upI_at, if_neg (by omega)]
        exact h4 j (by omega)
theorem sys19_loop {E : aE} {P : Int32 → hI_ → hJ_ → Prop} {I0 : hI_} {J : hJ_} (hC : RConst (I0 70) (I0 71) (I0 72)) (k : ∀ I2, frQ I0 I2 → I2 68 3 = 0 → I2 68 5 = 0 → I2 68 20 = 0 → (∀ j, j < 8 → I2 77 j = nI (D0 j)) → HX12_system_45 E P 0 0 I2 J) : ∀ (q m : Nat) (I : hI_), m + q = 8 → frQ I0 I → I 68 3 = 0 → I 68 5 = 0 → I 68 20 = 0 → (∀ j, j < m → I 77 j = nI (D0 j)) → HX12_system_19 E P 0 (nI m) I J
  | 0, m, I, hm, f, a3, a5, a20, h1 => wX12_system_19 ⟨fun _ => k I f a3 a5 a20 (fun j hj => h1 j (by omega)), fun z => absurd (nI_le (a := 8) (by omega) (by omega)) z⟩
  | q + 1, m, I, hm, f, a3, a5, a20, h1 => by
    have v8 : vp_in (nI m) 8 := vp_in_nI (by omega) (by omega)
    have e72 : I 72 m = nI (D0 m) := by rw [f.1 72 (by omega)]; exact (hC.2.2 m (by omega)).trans (plai_D m (by omega))
    refine wX12_system_19 ⟨fun z => absurd z (nI_ge (b := 8) (by omega) (by omega)), fun _ => ⟨v8, v8, ?_⟩⟩
    rw [nI_clamp (by omega), e72, nI_1 m]
    refine sys19_loop hC k q (m + 1) _ (by omega) (frQ_tr f (frQ_up (by omega))) ?_ ?_ ?_ (fun j hj => ?_)
    · rw [upI_at, if_neg (by omega)]; exact a3
    · rw [upI_at, if_neg (by omega)]; exact a5
    · rw [upI_at, if_neg (by omega)]; exact a20
    · rw [upI_at]
      by_cases w : j = m
      · rw [if_pos ⟨rfl, w⟩, w]
      · rw [if_neg (fun u => w u.2)]; exact h1 j (by omega)
theorem sys45_loop {E : aE} {P : Int32 → hI_ → hJ_ → Prop} {I0 : hI_} {J : hJ_} (k : ∀ I2, frQ I0 I2 → I2 68 3 = 0 → I2 68 5 = 0 → I2 68 20 = 0 → (∀ j, j < 8 → I2 77 j = nI (D0 j)) → (∀ j, j < 25 → I2 79 j = 0) → CallV E mX12_next [.ref 68] SH I2 J (fun I3 J4 => HX12_system_68 E P 0 I3 J4)) : ∀ (q m : Nat) (I : hI_), m + q = 25 → frQ I0 I → I 68 3 = 0 → I 68 5 = 0 → I 68 20 = 0 → (∀ j, j < 8 → I 77 j = nI (D0 j)) → (∀ j, j < m → I 79 j = 0) → HX12_system_45 E P 0 (nI m) I J
  | 0, m, I, hm, f, a3, a5, a20, h7, h1 => wX12_system_45 ⟨fun _ => k I f a3 a5 a20 h7 (fun j hj => h1 j (by omega)), fun z => absurd (nI_le (a := 25) (by omega) (by omega)) z⟩
  | q + 1, m, I, hm, f, a3, a5, a20, h7, h1 => by
    refine wX12_system_45 ⟨fun z => absurd z (nI_ge (b := 25) (by omega) (by omega)), fun _ => ⟨vp_in_nI (by omega) (by omega), ?_⟩⟩
    rw [nI_clamp (by omega), nI_1 m]
    refine sys45_loop k q (m + 1) _ (by omega) (frQ_tr f (frQ_up (by omega))) ?_ ?_ ?_ (fun j hj => ?_) (fun j hj => ?_)
    · rw [upI_at, if_neg (by omega)]; exact a3
    · rw [upI_at, if_neg (by omega)]; exact a5
    · rw [upI_at, if_neg (by omega)]; exact a20
    · rw [upI_at, if_neg (by omega)]; exact h7 j hj
    · rw [upI_at]
      by_cases w : j = m
      · rw [if_pos ⟨rfl, w⟩]
      · rw [if_neg (fun u => w u.2)]; exact h1 j (by omega)
theorem tX12_system {E : aE} {P : Int32 → hI_ → hJ_ → Prop} {n : Nat} {B : Nat → Nat} {I : hI_} {J : hJ_} (h : MB n B I) (hC : RConst (I 70) (I 71) (I 72)) {r : Nat × Nat × Nat × (Nat → Nat)} (hr : pars n B (n + 1) 0 0 D0 = r) (okr : r.1 = 0 → DOK r.2.2.2) (kb : r.1 ≠ 0 → ∀ I2, frQ I I2 → P ((-10) - nI r.2.1) (upI (upI I2 68 1 0) 68 2 (nI r.1)) J) (kg : r.1 = 0 → ∀ I2, SYS r.2.2.2 I I2 → P (nI r.2.2.1) I2 J) : CallI E mX12_system [.ref 68] SH I J P := by
  have hn := h.2.1
  refine wX12_system ?_
  generalize hF : upI (upI (upI I 68 3 0) 68 5 0) 68 20 0 = F
  have fF : frQ I F := by rw [← hF]; exact frQ_tr (frQ_M (frM_tr (frM_up (by omega)) (frM_up (by omega)))) frQ_20
  have F3 : F 68 3 = 0 := by rw [← hF, upI_at, if_neg (by omega), upI_at, if_neg (by omega)]; exact upI_same
  have F5 : F 68 5 = 0 := by rw [← hF, upI_at, if_neg (by omega)]; exact upI_same
  have F20 : F 68 20 = 0 := by rw [← hF]; exact upI_same
  refine sys19_loop hC (fun I2 f2 a3 a5 a20 a77 => ?_) 8 0 F (by omega) fF F3 F5 F20 (fun j hj => by omega)
  refine sys45_loop (I0 := I) (fun I3 f3 b3 b5 b20 b77 b79 => ?_) 25 0 I2 (by omega) f2 a3 a5 a20 a77 (fun j hj => by omega)
  refine tX12_nextY (k := 0) (MB_Q h f3) b3 b5 (by omega) (fun I4 f4 hT4 => ?_)
  have zD : ∀ j, 8 ≤ j → D0 j = 0 := fun j hj => by unfold D0; rw [if_neg (by omega), if_neg (by omega), if_neg (by omega), if_neg (by omega)]
  have hD3 : MD D0 I3 := by
    refine ⟨b77, fun i hi => ?_, fun k hk => ?_, fun j hj => ?_, ?_, ?_, ?_⟩
    · have hi : i < 0 := hi
      omega
    · rw [b79 k hk, zD _ (by omega)]; rfl
    · have hj : j < 0 := hj
      omega
    · rw [b20, tb_0]; rfl
    · rw [b20, tb_0]; rfl
    · rw [b20, tb_0]; rfl
  refine sysM_loop h hC (r := r) kb (fun r0 I5 f5 hD5 => ?_) (n + 1) 0 0 D0 I4 (frQ_tr f3 (frQ_M f4)) hT4 (fun _ => MD_M hD3 f4) D0_ok (by omega) (by omega) hr
  have ok := okr r0
  have o1 := ok.1
  generalize hK : upI (upI I5 68 1 0) 68 2 0 = K
  have Ko : ∀ a, a ≠ 68 → K a = I5 a := fun a ha => by rw [← hK]; funext j; rw [upI_at, if_neg (fun u => ha u.1), upI_at, if_neg (fun u => ha u.1)]
  refine sys122_loop (I0 := K) (fun I6 g0 g1 g2 g3 g4 => sys200 ?_) 48 0 K (by omega) (fun _ _ => rfl) (fun j _ hj => by omega) (fun j _ hj => by omega) (fun j _ hj => by omega) (fun j hj => by omega)
  obtain ⟨b1, b2, b3', b4, -⟩ := hD5
  refine kg r0 _ ⟨fun a ha => ?_, ⟨?_, ?_, ?_⟩, ⟨fun j hj => ?_, fun i hi => ?_, fun q hq => ?_, fun j hj => ?_⟩, ⟨?_, ?_, ?_⟩, ?_, upI_same⟩
  · rw [← f5.1 a (by omega), ← Ko a (by omega), ← g0 a (by omega)]
    funext j
    rw [upI_at, if_neg (by omega), upI_at, if_neg (by omega), upI_at, if_neg (by omega), upI_at, if_neg (by omega), upI_at, if_neg (by omega)]
  · rw [upI_at, if_neg (by omega), upI_at, if_neg (by omega), upI_at, if_neg (by omega), upI_at, if_neg (by omega), upI_at, if_neg (by omega), g0 68 (by omega), ← hK, upI_at, if_neg (by omega)]; exact upI_same
  · rw [upI_at, if_neg (by omega), upI_at, if_neg (by omega), upI_at, if_neg (by omega), upI_at, if_neg (by omega), upI_at, if_neg (by omega), g0 68 (by omega), ← hK]; exact upI_same
  · rw [upI_at, if_neg (by omega), upI_at, if_neg (by omega), upI_at, if_neg (by omega), upI_at, if_neg (by omega), upI_at, if_neg (by omega), g0 68 (by omega), ← hK, upI_at, if_neg (by omega), upI_at, if_neg (by omega)]; exact f5.2 37 (by omega)
  · rw [upI_at, if_neg (by omega), upI_at, if_neg (by omega), upI_at, if_neg (by omega), upI_at, if_neg (by omega), upI_at, if_neg (by omega), g1 j hj, Ko 77 (by omega)]; exact b1 j hj
  · rw [upI_at, if_neg (by omega), upI_at, if_neg (by omega), upI_at, if_neg (by omega), upI_at, if_neg (by omega), upI_at, if_neg (by omega), g2 i (by omega), Ko 78 (by omega)]; exact b2 i hi
  · rw [upI_at, if_neg (by omega), upI_at, if_neg (by omega), upI_at, if_neg (by omega), upI_at, if_neg (by omega), upI_at, if_neg (by omega), g3 q hq, Ko 79 (by omega)]; exact b3' q hq
  · rw [upI_at, if_neg (by omega), upI_at, if_neg (by omega), upI_at, if_neg (by omega), upI_at, if_neg (by omega), upI_at, if_neg (by omega), g4 j (by omega), Ko 80 (by omega)]; exact b4 j hj
  · rw [upI_at, if_neg (by omega), upI_at, if_neg (by omega), upI_at, if_neg (by omega), upI_at, if_neg (by omega)]; exact upI_same
  · rw [upI_at, if_neg (by omega), upI_at, if_neg (by omega), upI_at, if_neg (by omega)]; exact upI_same
  · rw [upI_at, if_neg (by omega), upI_at, if_neg (by omega)]; exact upI_same
  · rw [upI_at, if_neg (by omega)]; exact upI_same
