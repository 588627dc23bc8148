def HX12_layStruck_2 (E : aE) (P : hI_ → hJ_ → Prop) (v1 : Int32) (I : hI_) (J : hJ_) : Prop := V E mX12_layStruck (kV SH P) 2 [.ref 68, .int v1, .retAddr 0, .retAddr 0, .retAddr 0, .retAddr 0] [] (SH, I, J) (0, 0)
def HX12_layStruck_65 (E : aE) (P : hI_ → hJ_ → Prop) (v1 : Int32) (I : hI_) (J : hJ_) : Prop := V E mX12_layStruck (kV SH P) 65 [.ref 68, .int v1, .retAddr 0, .retAddr 0, .retAddr 0, .retAddr 0] [] (SH, I, J) (0, 0)
def HX12_layStruck_87 (E : aE) (P : hI_ → hJ_ → Prop) (v1 : Int32) (v2 : Int32) (I : hI_) (J : hJ_) : Prop := V E mX12_layStruck (kV SH P) 87 [.ref 68, .int v1, .int v2, .retAddr 0, .retAddr 0, .retAddr 0] [] (SH, I, J) (0, 0)
def HX12_layStruck_93 (E : aE) (P : hI_ → hJ_ → Prop) (v1 : Int32) (v2 : Int32) (v3 : Int32) (v4 : Int32) (I : hI_) (J : hJ_) : Prop := V E mX12_layStruck (kV SH P) 93 [.ref 68, .int v1, .int v2, .int v3, .int v4, .retAddr 0] [] (SH, I, J) (0, 0)
set_option maxHeartbeats 4000000 in
set_option maxRecDepth 20000 in
theorem wX12_layStruck {E : aE} {P : hI_ → hJ_ → Prop} {I : hI_} {J : hJ_}  (k : HX12_layStruck_2 E P (0 : Int32) I J) : CallV E mX12_layStruck [.ref 68] SH I J P := by
  refine Call_of (L := [.ref 68, .retAddr 0, .retAddr 0, .retAddr 0, .retAddr 0, .retAddr 0]) ok_X12_layStruck.1 rfl rfl ?_
  refine V_iconst (v := (0 : Int32)) dX12_layStruck_0 rfl ?_
  refine U_istore_n (L2 := [.ref 68, .int (0 : Int32), .retAddr 0, .retAddr 0, .retAddr 0, .retAddr 0]) dX12_layStruck_1 (by decide) rfl ?_
  exact k
set_option maxHeartbeats 4000000 in
set_option maxRecDepth 20000 in
theorem wX12_layStruck_2 {E : aE} {P : hI_ → hJ_ → Prop} {I : hI_} {J : hJ_} {v1 : Int32} (k : (((I 82 282) ≤ v1 → HX12_layStruck_65 E P (0 : Int32) I J) ∧ (¬ ((I 82 282) ≤ v1) → (inD v1 (0 : Int32)) ∧ (inD v1 (1 : Int32)) ∧ (inC (snt I v1 (1 : Int32)) (0 : Int32)) ∧ (inD v1 (2 : Int32)) ∧ CallI E mX12_news [.ref 68, .int (snt I v1 (0 : Int32)), .int (its I (snt I v1 (1 : Int32)) (0 : Int32)), .int (snt I v1 (2 : Int32))] SH I J (fun x6 I7 J8 => (vp_in v1 24) ∧ (vp_in v1 24) ∧ (vp_in v1 24) ∧ HX12_layStruck_2 E P (v1 + (1 : Int32)) (upI (upI (upI I7 83 v1.toNatClampNeg x6) 84 v1.toNatClampNeg (0 : Int32)) 85 v1.toNatClampNeg (0 : Int32)) J8)))) : HX12_layStruck_2 E P v1 I J := by
  show V E mX12_layStruck (kV SH P) 2 [.ref 68, .int v1, .retAddr 0, .retAddr 0, .retAddr 0, .retAddr 0] [] (SH, I, J) (0, 0)
  refine V_iload_n dX12_layStruck_2 rfl ?_
  refine V_aload_n dX12_layStruck_3 rfl ?_
  refine U_callV1 [] dX12_layStruck_4 ov_X12_221 s_68 rfl ⟨rfl, rfl, rfl⟩ rfl rfl rfl (tX12_deals ?_)
  refine V_icmp_ge dX12_layStruck_7 (fun c1 => ?_) (fun c1 => ?_)
  · have k := k.1 c1
    refine V_iconst (v := (0 : Int32)) dX12_layStruck_63 rfl ?_
    refine U_istore_n (L2 := [.ref 68, .int (0 : Int32), .retAddr 0, .retAddr 0, .retAddr 0, .retAddr 0]) dX12_layStruck_64 (by decide) rfl ?_
    exact k
  · have k := k.2 c1
    refine V_aload_n dX12_layStruck_10 rfl ?_
    refine U_getR dX12_layStruck_11 fl_X12_52 s_68 rfl ?_
    refine V_iload_n dX12_layStruck_14 rfl ?_
    refine V_aload_n dX12_layStruck_15 rfl ?_
    refine V_aload_n dX12_layStruck_16 rfl ?_
    refine V_iload_n dX12_layStruck_17 rfl ?_
    refine V_iconst (v := (0 : Int32)) dX12_layStruck_18 rfl ?_
    obtain ⟨hp2, k⟩ := k
    refine U_callV1 [.int v1, .int (0 : Int32)] dX12_layStruck_19 ov_X12_224 s_68 rfl ⟨rfl, rfl, rfl⟩ rfl rfl rfl (tX12_sent4 hp2 ?_)
    refine V_aload_n dX12_layStruck_22 rfl ?_
    refine V_aload_n dX12_layStruck_23 rfl ?_
    refine V_iload_n dX12_layStruck_24 rfl ?_
    refine V_iconst (v := (1 : Int32)) dX12_layStruck_25 rfl ?_
    obtain ⟨hp3, k⟩ := k
    refine U_callV1 [.int v1, .int (1 : Int32)] dX12_layStruck_26 ov_X12_224 s_68 rfl ⟨rfl, rfl, rfl⟩ rfl rfl rfl (tX12_sent4 hp3 ?_)
    refine V_iconst (v := (0 : Int32)) dX12_layStruck_29 rfl ?_
    obtain ⟨hp4, k⟩ := k
    refine U_callV1 [.int (snt I v1 (1 : Int32)), .int (0 : Int32)] dX12_layStruck_30 ov_X12_202 s_68 rfl ⟨rfl, rfl, rfl⟩ rfl rfl rfl (tX12_its hp4 ?_)
    refine V_aload_n dX12_layStruck_33 rfl ?_
    refine V_iload_n dX12_layStruck_34 rfl ?_
    refine V_iconst (v := (2 : Int32)) dX12_layStruck_35 rfl ?_
    obtain ⟨hp5, k⟩ := k
    refine U_callV1 [.int v1, .int (2 : Int32)] dX12_layStruck_36 ov_X12_224 s_68 rfl ⟨rfl, rfl, rfl⟩ rfl rfl rfl (tX12_sent4 hp5 ?_)
    refine U_callV1 [.int (snt I v1 (0 : Int32)), .int (its I (snt I v1 (1 : Int32)) (0 : Int32)), .int (snt I v1 (2 : Int32))] dX12_layStruck_39 ov_X12_182 s_68 rfl ⟨rfl, rfl, rfl⟩ rfl rfl rfl (CallI_mono k (fun x6 I7 J8 k => ?_))
    obtain ⟨hb9, k⟩ := k
    refine U_iast dX12_layStruck_42 s_83 hb9 ?_
    refine V_aload_n dX12_layStruck_43 rfl ?_
    refine U_getR dX12_layStruck_44 fl_X12_55 s_68 rfl ?_
    refine V_iload_n dX12_layStruck_47 rfl ?_
    refine V_iconst (v := (0 : Int32)) dX12_layStruck_48 rfl ?_
    obtain ⟨hb10, k⟩ := k
    refine U_iast dX12_layStruck_49 s_84 hb10 ?_
    refine V_aload_n dX12_layStruck_50 rfl ?_
    refine U_getR dX12_layStruck_51 fl_X12_58 s_68 rfl ?_
    refine V_iload_n dX12_layStruck_54 rfl ?_
    refine V_iconst (v := (0 : Int32)) dX12_layStruck_55 rfl ?_
    obtain ⟨hb11, k⟩ := k
    refine U_zast dX12_layStruck_56 (by decide) s_85 hb11 ?_
    refine U_iinc (v := v1 + (1 : Int32)) (L2 := [.ref 68, .int (v1 + (1 : Int32)), .retAddr 0, .retAddr 0, .retAddr 0, .retAddr 0]) dX12_layStruck_57 (by decide) rfl rfl rfl ?_
    refine V_goto dX12_layStruck_60 ?_
    exact k
set_option maxHeartbeats 4000000 in
set_option maxRecDepth 20000 in
theorem wX12_layStruck_65 {E : aE} {P : hI_ → hJ_ → Prop} {I : hI_} {J : hJ_} {v1 : Int32} (k : (((I 82 281) ≤ v1 → P I J) ∧ (¬ ((I 82 281) ≤ v1) → (inC v1 (4 : Int32)) ∧ HX12_layStruck_87 E P v1 (its I v1 (4 : Int32)) I J))) : HX12_layStruck_65 E P v1 I J := by
  show V E mX12_layStruck (kV SH P) 65 [.ref 68, .int v1, .retAddr 0, .retAddr 0, .retAddr 0, .retAddr 0] [] (SH, I, J) (0, 0)
  refine V_iload_n dX12_layStruck_65 rfl ?_
  refine V_aload_n dX12_layStruck_66 rfl ?_
  refine U_getR dX12_layStruck_67 fl_X12_49 s_68 rfl ?_
  refine V_sipush (v := (281 : Int32)) dX12_layStruck_70 rfl ?_
  refine U_ialdx (x := I 82 281) dX12_layStruck_73 s_82 (by unfold vp_in; decide) rfl ?_
  refine V_icmp_ge dX12_layStruck_74 (fun c1 => ?_) (fun c1 => ?_)
  · have k := k.1 c1
    exact V_vret dX12_layStruck_259 rfl rfl rfl ⟨_, _, rfl, k⟩
  · have k := k.2 c1
    refine V_aload_n dX12_layStruck_77 rfl ?_
    refine V_iload_n dX12_layStruck_78 rfl ?_
    refine V_iconst (v := (4 : Int32)) dX12_layStruck_79 rfl ?_
    obtain ⟨hp2, k⟩ := k
    refine U_callV1 [.int v1, .int (4 : Int32)] dX12_layStruck_80 ov_X12_202 s_68 rfl ⟨rfl, rfl, rfl⟩ rfl rfl rfl (tX12_its hp2 ?_)
    refine U_istore_n (L2 := [.ref 68, .int v1, .int (its I v1 (4 : Int32)), .retAddr 0, .retAddr 0, .retAddr 0]) dX12_layStruck_83 (by decide) rfl ?_
    refine V_bipush (v := (-4 : Int32)) dX12_layStruck_84 rfl ?_
    refine U_istore_n (L2 := [.ref 68, .int v1, .int (its I v1 (4 : Int32)), .int (-4 : Int32), .retAddr 0, .retAddr 0]) dX12_layStruck_86 (by decide) rfl ?_
    exact V_wk (wk_eq (wk_eq (wk_eq (wk_j (wk_j (wk_j (wk_nil))))))) k
set_option maxHeartbeats 4000000 in
set_option maxRecDepth 20000 in
theorem wX12_layStruck_87 {E : aE} {P : hI_ → hJ_ → Prop} {I : hI_} {J : hJ_} {v1 : Int32} {v2 : Int32} (k : HX12_layStruck_93 E P v1 v2 (-4 : Int32) (0 : Int32) I J) : HX12_layStruck_87 E P v1 v2 I J := by
  show V E mX12_layStruck (kV SH P) 87 [.ref 68, .int v1, .int v2, .retAddr 0, .retAddr 0, .retAddr 0] [] (SH, I, J) (0, 0)
  refine V_bipush (v := (-4 : Int32)) dX12_layStruck_87 rfl ?_
  refine U_istore_n (L2 := [.ref 68, .int v1, .int v2, .int (-4 : Int32), .retAddr 0, .retAddr 0]) dX12_layStruck_89 (by decide) rfl ?_
  refine V_iconst (v := (0 : Int32)) dX12_layStruck_90 rfl ?_
  refine U_istore (L2 := [.ref 68, .int v1, .int v2, .int (-4 : Int32), .int (0 : Int32), .retAddr 0]) dX12_layStruck_91 (by decide) rfl ?_
  exact k
set_option maxHeartbeats 4000000 in
set_option maxRecDepth 20000 in
theorem wX12_layStruck_93 {E : aE} {P : hI_ → hJ_ → Prop} {I : hI_} {J : hJ_} {v1 : Int32} {v2 : Int32} {v3 : Int32} {v4 : Int32} (k : (((I 82 282) ≤ v4 → ((v3 = (-4 : Int32) → ((¬ v3 = (-4 : Int32) → HX12_layStruck_87 E P v1 v2 I J) ∧ (v3 = (-4 : Int32) → HX12_layStruck_65 E P (v1 + (1 : Int32)) I J))) ∧ (¬ (v3 = (-4 : Int32)) → (vp_in v3 24) ∧ (inD v3 (3 : Int32)) ∧ ((¬ (v2 ≤ (snt (upI I 85 v3.toNatClampNeg (1 : Int32)) v3 (3 : Int32)))) → inD v3 (3 : Int32)) ∧ (vp_in v3 24) ∧ (cOK (upI I 85 v3.toNatClampNeg (1 : Int32)) v1) ∧ (vp_in v3 24) ∧ (vp_in v3 24) ∧ ((¬ v3 = (-4 : Int32) → HX12_layStruck_87 E P v1 (v2 - ((upI (upI I 85 v3.toNatClampNeg (1 : Int32)) 84 v3.toNatClampNeg (if ¬ (stB (upI I 85 v3.toNatClampNeg (1 : Int32)) v1 (I 83 v3.toNatClampNeg) = true) then (0 : Int32) else (if v2 ≤ (snt (upI I 85 v3.toNatClampNeg (1 : Int32)) v3 (3 : Int32)) then v2 else (snt (upI I 85 v3.toNatClampNeg (1 : Int32)) v3 (3 : Int32))))) 84 v3.toNatClampNeg)) (upI (upI I 85 v3.toNatClampNeg (1 : Int32)) 84 v3.toNatClampNeg (if ¬ (stB (upI I 85 v3.toNatClampNeg (1 : Int32)) v1 (I 83 v3.toNatClampNeg) = true) then (0 : Int32) else (if v2 ≤ (snt (upI I 85 v3.toNatClampNeg (1 : Int32)) v3 (3 : Int32)) then v2 else (snt (upI I 85 v3.toNatClampNeg (1 : Int32)) v3 (3 : Int32))))) J) ∧ (v3 = (-4 : Int32) → HX12_layStruck_65 E P (v1 + (1 : Int32)) (upI (upI I 85 v3.toNatClampNeg (1 : Int32)) 84 v3.toNatClampNeg (if ¬ (stB (upI I 85 v3.toNatClampNeg (1 : Int32)) v1 (I 83 v3.toNatClampNeg) = true) then (0 : Int32) else (if v2 ≤ (snt (upI I 85 v3.toNatClampNeg (1 : Int32)) v3 (3 : Int32)) then v2 else (snt (upI I 85 v3.toNatClampNeg (1 : Int32)) v3 (3 : Int32))))) J))))) ∧ (¬ ((I 82 282) ≤ v4) → (inD v4 (1 : Int32)) ∧ (((snt I v4 (1 : Int32)) = v1) → vp_in v4 24) ∧ (((snt I v4 (1 : Int32)) = v1) → ((I 85 v4.toNatClampNeg) = (0 : Int32)) → vp_in v4 24) ∧ (((((snt I v4 (1 : Int32)) = v1) ∧ (((I 85 v4.toNatClampNeg) = (0 : Int32)) ∧ (¬ ((10000 : Int32) ≤ (I 83 v4.toNatClampNeg)))))) → (¬ (v3 = (-4 : Int32))) → inD v4 2) ∧ (((((snt I v4 (1 : Int32)) = v1) ∧ (((I 85 v4.toNatClampNeg) = (0 : Int32)) ∧ (¬ ((10000 : Int32) ≤ (I 83 v4.toNatClampNeg)))))) → (¬ (v3 = (-4 : Int32))) → inD v3 2) ∧ HX12_layStruck_93 E P v1 v2 (if ¬ (((snt I v4 (1 : Int32)) = v1) ∧ (((I 85 v4.toNatClampNeg) = (0 : Int32)) ∧ (¬ ((10000 : Int32) ≤ (I 83 v4.toNatClampNeg))))) then v3 else (if v3 = (-4 : Int32) then v4 else (if ¬ (ahd I v4 v3 = true) then v3 else v4))) (v4 + (1 : Int32)) I J))) : HX12_layStruck_93 E P v1 v2 v3 v4 I J := by
  show V E mX12_layStruck (kV SH P) 93 [.ref 68, .int v1, .int v2, .int v3, .int v4, .retAddr 0] [] (SH, I, J) (0, 0)
  refine V_iload dX12_layStruck_93 rfl ?_
  refine V_aload_n dX12_layStruck_95 rfl ?_
  refine U_callV1 [] dX12_layStruck_96 ov_X12_221 s_68 rfl ⟨rfl, rfl, rfl⟩ rfl rfl rfl (tX12_deals ?_)
  refine V_icmp_ge dX12_layStruck_99 (fun c1 => ?_) (fun c1 => ?_)
  · have k := k.1 c1
    refine V_iload_n dX12_layStruck_177 rfl ?_
    refine V_bipush (v := (-4 : Int32)) dX12_layStruck_178 rfl ?_
    refine V_icmp_eq dX12_layStruck_180 (fun c2 => ?_) (fun c2 => ?_)
    · have k := k.1 c2
      refine V_iload_n dX12_layStruck_247 rfl ?_
      refine V_bipush (v := (-4 : Int32)) dX12_layStruck_248 rfl ?_
      refine V_icmp_ne dX12_layStruck_250 (fun c3 => ?_) (fun c3 => ?_)
      · have k := k.1 c3
        exact V_wk (wk_eq (wk_eq (wk_eq (wk_j (wk_j (wk_j (wk_nil))))))) k
      · have k := k.2 c3
        refine U_iinc (v := v1 + (1 : Int32)) (L2 := [.ref 68, .int (v1 + (1 : Int32)), .int v2, .int v3, .int v4, .retAddr 0]) dX12_layStruck_253 (by decide) rfl rfl rfl ?_
        refine V_goto dX12_layStruck_256 ?_
        exact V_wk (wk_eq (wk_eq (wk_j (wk_j (wk_j (wk_j (wk_nil))))))) k
    · have k := k.2 c2
      refine V_aload_n dX12_layStruck_183 rfl ?_
      refine U_getR dX12_layStruck_184 fl_X12_58 s_68 rfl ?_
      refine V_iload_n dX12_layStruck_187 rfl ?_
      refine V_iconst (v := (1 : Int32)) dX12_layStruck_188 rfl ?_
      obtain ⟨hb4, k⟩ := k
      refine U_zast dX12_layStruck_189 (by decide) s_85 hb4 ?_
      refine V_aload_n dX12_layStruck_190 rfl ?_
      refine V_iload_n dX12_layStruck_191 rfl ?_
      refine V_iconst (v := (3 : Int32)) dX12_layStruck_192 rfl ?_
      obtain ⟨hp5, k⟩ := k
      refine U_callV1 [.int v3, .int (3 : Int32)] dX12_layStruck_193 ov_X12_224 s_68 rfl ⟨rfl, rfl, rfl⟩ rfl rfl rfl (tX12_sent4 hp5 ?_)
      refine V_iload_n dX12_layStruck_196 rfl ?_
      obtain ⟨hc2009, k⟩ := k
      have key6 : ∀ (y2008 : Int32), y2008 = (if v2 ≤ (snt (upI I 85 v3.toNatClampNeg (1 : Int32)) v3 (3 : Int32)) then v2 else (snt (upI I 85 v3.toNatClampNeg (1 : Int32)) v3 (3 : Int32))) → V E mX12_layStruck (kV SH P) 210 [.ref 68, .int v1, .int v2, .int v3, .int v4, .retAddr 0] [.int y2008] (SH, upI I 85 v3.toNatClampNeg (1 : Int32), J) (0, 0) := by
        intro y2008 ey2008
        subst ey2008
        refine U_istore (L2 := [.ref 68, .int v1, .int v2, .int v3, .int (if v2 ≤ (snt (upI I 85 v3.toNatClampNeg (1 : Int32)) v3 (3 : Int32)) then v2 else (snt (upI I 85 v3.toNatClampNeg (1 : Int32)) v3 (3 : Int32))), .retAddr 0]) dX12_layStruck_210 (by decide) rfl ?_
        refine V_aload_n dX12_layStruck_212 rfl ?_
        refine U_getR dX12_layStruck_213 fl_X12_55 s_68 rfl ?_
        refine V_iload_n dX12_layStruck_216 rfl ?_
        refine V_aload_n dX12_layStruck_217 rfl ?_
        refine V_iload_n dX12_layStruck_218 rfl ?_
        refine V_aload_n dX12_layStruck_219 rfl ?_
        refine U_getR dX12_layStruck_220 fl_X12_52 s_68 rfl ?_
        refine V_iload_n dX12_layStruck_223 rfl ?_
        obtain ⟨hb2010, k⟩ := k
        refine U_ialdx (x := I 83 v3.toNatClampNeg) dX12_layStruck_224 s_83 hb2010 rfl ?_
        obtain ⟨hp2011, k⟩ := k
        refine U_callV1 [.int v1, .int (I 83 v3.toNatClampNeg)] dX12_layStruck_225 ov_X12_227 s_68 rfl ⟨rfl, rfl, rfl⟩ rfl rfl rfl (tX12_standsIn hp2011 ?_)
        have key2012 : ∀ (y4013 : Int32), y4013 = (if ¬ (stB (upI I 85 v3.toNatClampNeg (1 : Int32)) v1 (I 83 v3.toNatClampNeg) = true) then (0 : Int32) else (if v2 ≤ (snt (upI I 85 v3.toNatClampNeg (1 : Int32)) v3 (3 : Int32)) then v2 else (snt (upI I 85 v3.toNatClampNeg (1 : Int32)) v3 (3 : Int32)))) → V E mX12_layStruck (kV SH P) 237 [.ref 68, .int v1, .int v2, .int v3, .int (if v2 ≤ (snt (upI I 85 v3.toNatClampNeg (1 : Int32)) v3 (3 : Int32)) then v2 else (snt (upI I 85 v3.toNatClampNeg (1 : Int32)) v3 (3 : Int32))), .retAddr 0] [.int y4013, .int v3, .ref 84] (SH, upI I 85 v3.toNatClampNeg (1 : Int32), J) (0, 0) := by
          intro y4013 ey4013
          subst ey4013
          obtain ⟨hb4014, k⟩ := k
          refine U_iast dX12_layStruck_237 s_84 hb4014 ?_
          refine V_iload_n dX12_layStruck_238 rfl ?_
          refine V_aload_n dX12_layStruck_239 rfl ?_
          refine U_getR dX12_layStruck_240 fl_X12_55 s_68 rfl ?_
          refine V_iload_n dX12_layStruck_243 rfl ?_
          obtain ⟨hb4015, k⟩ := k
          refine U_iald dX12_layStruck_244 s_84 hb4015 ?_
          refine V_isub dX12_layStruck_245 ?_
          refine U_istore_n (L2 := [.ref 68, .int v1, .int (v2 - ((upI (upI I 85 v3.toNatClampNeg (1 : Int32)) 84 v3.toNatClampNeg (if ¬ (stB (upI I 85 v3.toNatClampNeg (1 : Int32)) v1 (I 83 v3.toNatClampNeg) = true) then (0 : Int32) else (if v2 ≤ (snt (upI I 85 v3.toNatClampNeg (1 : Int32)) v3 (3 : Int32)) then v2 else (snt (upI I 85 v3.toNatClampNeg (1 : Int32)) v3 (3 : Int32))))) 84 v3.toNatClampNeg)), .int v3, .int (if v2 ≤ (snt (upI I 85 v3.toNatClampNeg (1 : Int32)) v3 (3 : Int32)) then v2 else (snt (upI I 85 v3.toNatClampNeg (1 : Int32)) v3 (3 : Int32))), .retAddr 0]) dX12_layStruck_246 (by decide) rfl ?_
          refine V_iload_n dX12_layStruck_247 rfl ?_
          refine V_bipush (v := (-4 : Int32)) dX12_layStruck_248 rfl ?_
          refine V_icmp_ne dX12_layStruck_250 (fun c4016 => ?_) (fun c4016 => ?_)
          · have k := k.1 c4016
            exact V_wk (wk_eq (wk_eq (wk_eq (wk_j (wk_j (wk_j (wk_nil))))))) k
          · have k := k.2 c4016
            refine U_iinc (v := v1 + (1 : Int32)) (L2 := [.ref 68, .int (v1 + (1 : Int32)), .int (v2 - ((upI (upI I 85 v3.toNatClampNeg (1 : Int32)) 84 v3.toNatClampNeg (if ¬ (stB (upI I 85 v3.toNatClampNeg (1 : Int32)) v1 (I 83 v3.toNatClampNeg) = true) then (0 : Int32) else (if v2 ≤ (snt (upI I 85 v3.toNatClampNeg (1 : Int32)) v3 (3 : Int32)) then v2 else (snt (upI I 85 v3.toNatClampNeg (1 : Int32)) v3 (3 : Int32))))) 84 v3.toNatClampNeg)), .int v3, .int (if v2 ≤ (snt (upI I 85 v3.toNatClampNeg (1 : Int32)) v3 (3 : Int32)) then v2 else (snt (upI I 85 v3.toNatClampNeg (1 : Int32)) v3 (3 : Int32))), .retAddr 0]) dX12_layStruck_253 (by decide) rfl rfl rfl ?_
            refine V_goto dX12_layStruck_256 ?_
            exact V_wk (wk_eq (wk_eq (wk_j (wk_j (wk_j (wk_j (wk_nil))))))) k
        refine U_ifb_eq dX12_layStruck_228 (fun c4017 => ?_) (fun c4017 => ?_)
        · refine V_iconst (v := (0 : Int32)) dX12_layStruck_236 rfl ?_
          exact key2012 _ (by rw [if_pos c4017])
        · refine V_iload dX12_layStruck_231 rfl ?_
          refine V_goto dX12_layStruck_233 ?_
          exact key2012 _ (by rw [if_neg (not_not_intro c4017)])
      refine V_icmp_ge dX12_layStruck_197 (fun c4018 => ?_) (fun c4018 => ?_)
      · refine V_iload_n dX12_layStruck_209 rfl ?_
        exact key6 _ (by rw [if_pos c4018])
      · refine V_aload_n dX12_layStruck_200 rfl ?_
        refine V_iload_n dX12_layStruck_201 rfl ?_
        refine V_iconst (v := (3 : Int32)) dX12_layStruck_202 rfl ?_
        have hp2007 := hc2009 c4018
        refine U_callV1 [.int v3, .int (3 : Int32)] dX12_layStruck_203 ov_X12_224 s_68 rfl ⟨rfl, rfl, rfl⟩ rfl rfl rfl (tX12_sent4 hp2007 ?_)
        refine V_goto dX12_layStruck_206 ?_
        exact key6 _ (by rw [if_neg c4018])
  · have k := k.2 c1
    refine V_aload_n dX12_layStruck_102 rfl ?_
    refine V_iload dX12_layStruck_103 rfl ?_
    refine V_iconst (v := (1 : Int32)) dX12_layStruck_105 rfl ?_
    obtain ⟨hp4019, k⟩ := k
    refine U_callV1 [.int v4, .int (1 : Int32)] dX12_layStruck_106 ov_X12_224 s_68 rfl ⟨rfl, rfl, rfl⟩ rfl rfl rfl (tX12_sent4 hp4019 ?_)
    refine V_iload_n dX12_layStruck_109 rfl ?_
    obtain ⟨hc6024, hc6025, k⟩ := k
    have key4020 : ∀ (y6023 : Int32), y6023 = (b2i (((snt I v4 (1 : Int32)) = v1) ∧ (((I 85 v4.toNatClampNeg) = (0 : Int32)) ∧ (¬ ((10000 : Int32) ≤ (I 83 v4.toNatClampNeg)))))) → V E mX12_layStruck (kV SH P) 141 [.ref 68, .int v1, .int v2, .int v3, .int v4, .retAddr 0] [.int y6023] (SH, I, J) (0, 0) := by
      intro y6023 ey6023
      subst ey6023
      refine U_istore (L2 := [.ref 68, .int v1, .int v2, .int v3, .int v4, .int (b2i (((snt I v4 (1 : Int32)) = v1) ∧ (((I 85 v4.toNatClampNeg) = (0 : Int32)) ∧ (¬ ((10000 : Int32) ≤ (I 83 v4.toNatClampNeg))))))]) dX12_layStruck_141 (by decide) rfl ?_
      refine V_iload dX12_layStruck_143 rfl ?_
      obtain ⟨hc8030, hc8031, k⟩ := k
      have key6026 : ∀ (y8029 : Int32), y8029 = (if ¬ (((snt I v4 (1 : Int32)) = v1) ∧ (((I 85 v4.toNatClampNeg) = (0 : Int32)) ∧ (¬ ((10000 : Int32) ≤ (I 83 v4.toNatClampNeg))))) then v3 else (if v3 = (-4 : Int32) then v4 else (if ¬ (ahd I v4 v3 = true) then v3 else v4))) → V E mX12_layStruck (kV SH P) 170 [.ref 68, .int v1, .int v2, .int v3, .int v4, .int (b2i (((snt I v4 (1 : Int32)) = v1) ∧ (((I 85 v4.toNatClampNeg) = (0 : Int32)) ∧ (¬ ((10000 : Int32) ≤ (I 83 v4.toNatClampNeg))))))] [.int y8029] (SH, I, J) (0, 0) := by
        intro y8029 ey8029
        subst ey8029
        refine U_istore_n (L2 := [.ref 68, .int v1, .int v2, .int (if ¬ (((snt I v4 (1 : Int32)) = v1) ∧ (((I 85 v4.toNatClampNeg) = (0 : Int32)) ∧ (¬ ((10000 : Int32) ≤ (I 83 v4.toNatClampNeg))))) then v3 else (if v3 = (-4 : Int32) then v4 else (if ¬ (ahd I v4 v3 = true) then v3 else v4))), .int v4, .int (b2i (((snt I v4 (1 : Int32)) = v1) ∧ (((I 85 v4.toNatClampNeg) = (0 : Int32)) ∧ (¬ ((10000 : Int32) ≤ (I 83 v4.toNatClampNeg))))))]) dX12_layStruck_170 (by decide) rfl ?_
        refine U_iinc (v := v4 + (1 : Int32)) (L2 := [.ref 68, .int v1, .int v2, .int (if ¬ (((snt I v4 (1 : Int32)) = v1) ∧ (((I 85 v4.toNatClampNeg) = (0 : Int32)) ∧ (¬ ((10000 : Int32) ≤ (I 83 v4.toNatClampNeg))))) then v3 else (if v3 = (-4 : Int32) then v4 else (if ¬ (ahd I v4 v3 = true) then v3 else v4))), .int (v4 + (1 : Int32)), .int (b2i (((snt I v4 (1 : Int32)) = v1) ∧ (((I 85 v4.toNatClampNeg) = (0 : Int32)) ∧ (¬ ((10000 : Int32) ≤ (I 83 v4.toNatClampNeg))))))]) dX12_layStruck_171 (by decide) rfl rfl rfl ?_
        refine V_goto dX12_layStruck_174 ?_
        exact V_wk (wk_eq (wk_eq (wk_eq (wk_eq (wk_eq (wk_j (wk_nil))))))) k
      refine U_ifb_eq dX12_layStruck_145 (fun c8032 => ?_) (fun c8032 => ?_)
      · refine V_iload_n dX12_layStruck_169 rfl ?_
        exact key6026 _ (by rw [if_pos c8032])
      · refine V_iload_n dX12_layStruck_148 rfl ?_
        refine V_bipush (v := (-4 : Int32)) dX12_layStruck_149 rfl ?_
        refine V_icmp_eq dX12_layStruck_151 (fun c8033 => ?_) (fun c8033 => ?_)
        · refine V_iload dX12_layStruck_164 rfl ?_
          refine V_goto dX12_layStruck_166 ?_
          exact key6026 _ (by rw [if_neg (not_not_intro c8032), if_pos c8033])
        · refine V_aload_n dX12_layStruck_154 rfl ?_
          refine V_iload dX12_layStruck_155 rfl ?_
          refine V_iload_n dX12_layStruck_157 rfl ?_
          have hp8027 := hc8030 c8032 c8033
          have hp8028 := hc8031 c8032 c8033
          refine U_callV1 [.int v4, .int v3] dX12_layStruck_158 ov_X12_237 s_68 rfl ⟨rfl, rfl, rfl⟩ rfl rfl rfl (tX12_isAhead hp8027 hp8028 ?_)
          refine U_ifb_eq dX12_layStruck_161 (fun c8034 => ?_) (fun c8034 => ?_)
          · refine V_iload_n dX12_layStruck_169 rfl ?_
            exact key6026 _ (by rw [if_neg (not_not_intro c8032), if_neg c8033, if_pos c8034])
          · refine V_iload dX12_layStruck_164 rfl ?_
            refine V_goto dX12_layStruck_166 ?_
            exact key6026 _ (by rw [if_neg (not_not_intro c8032), if_neg c8033, if_neg (not_not_intro c8034)])
    refine V_icmp_ne dX12_layStruck_110 (fun c8035 => ?_) (fun c8035 => ?_)
    · refine V_iconst (v := (0 : Int32)) dX12_layStruck_140 rfl ?_
      exact key4020 _ ((b2i_0.mpr (fun q => c8035 q.1)).symm)
    · refine V_aload_n dX12_layStruck_113 rfl ?_
      refine U_getR dX12_layStruck_114 fl_X12_58 s_68 rfl ?_
      refine V_iload dX12_layStruck_117 rfl ?_
      have hb6021 := hc6024 c8035
      refine U_zald dX12_layStruck_119 s_85 hb6021 ?_
      refine V_if_ne dX12_layStruck_120 (fun c8036 => ?_) (fun c8036 => ?_)
      · refine V_iconst (v := (0 : Int32)) dX12_layStruck_140 rfl ?_
        exact key4020 _ ((b2i_0.mpr (fun q => (fun q => c8036 q.1) q.2)).symm)
      · refine V_aload_n dX12_layStruck_123 rfl ?_
        refine U_getR dX12_layStruck_124 fl_X12_52 s_68 rfl ?_
        refine V_iload dX12_layStruck_127 rfl ?_
        have hb6022 := hc6025 c8035 c8036
        refine U_iald dX12_layStruck_129 s_83 hb6022 ?_
        refine V_sipush (v := (10000 : Int32)) dX12_layStruck_130 rfl ?_
        refine V_icmp_ge dX12_layStruck_133 (fun c8037 => ?_) (fun c8037 => ?_)
        · refine V_iconst (v := (0 : Int32)) dX12_layStruck_140 rfl ?_
          exact key4020 _ ((b2i_0.mpr (fun q => (fun q => (fun q => q c8037) q.2) q.2)).symm)
        · refine V_iconst (v := (1 : Int32)) dX12_layStruck_136 rfl ?_
          refine V_goto dX12_layStruck_137 ?_
          exact key4020 _ ((b2i_1.mpr (⟨c8035, ⟨c8036, c8037⟩⟩)).symm)
noncomputable def nxP (I : hI_) (n : Nat) : Option Nat → Option Nat
  | none => some n
  | some b => if kD I n < kD I b then some n else some b
noncomputable def nxD (I : hI_) (c : Nat) (g : Nat → Bool) : Nat → Option Nat
  | 0 => none
  | n + 1 => if cD I n = c ∧ g n = false then nxP I n (nxD I c g n) else nxD I c g n
theorem nxD_s (I : hI_) (c : Nat) (g : Nat → Bool) (n : Nat) : nxD I c g (n + 1) = if cD I n = c ∧ g n = false then nxP I n (nxD I c g n) else nxD I c g n := rfl
theorem nxD_ok {I : hI_} {c : Nat} {g : Nat → Bool} : ∀ n, (nxD I c g n = none → ∀ e, e < n → cD I e = c → g e = true) ∧ ∀ b, nxD I c g n = some b → b < n ∧ cD I b = c ∧ g b = false ∧ ∀ e, e < n → cD I e = c → g e = false → kD I b ≤ kD I e
  | 0 => ⟨fun _ e he => by omega, fun b hb => by cases hb⟩
  | n + 1 => by
    obtain ⟨i1, i2⟩ := nxD_ok n (I := I) (c := c) (g := g)
    rw [nxD_s]
    by_cases z : cD I n = c ∧ g n = false
    · rw [if_pos z]
      cases q : nxD I c g n with
      | none =>
        refine ⟨fun y => (by cases y), fun b hb => ?_⟩
        have e : n = b := Option.some.inj hb
        subst e
        refine ⟨by omega, z.1, z.2, fun e he h1 h2 => ?_⟩
        by_cases w : e = n
        · rw [w]; exact Nat.le_refl _
        · have := i1 q e (by omega) h1
          rw [this] at h2; cases h2
      | some x =>
        obtain ⟨x1, x2, x3, x4⟩ := i2 x q
        refine ⟨fun y => ?_, fun b hb => ?_⟩
        · unfold nxP at y; dsimp only at y; split at y <;> cases y
        · unfold nxP at hb; dsimp only at hb
          by_cases y : kD I n < kD I x
          · rw [if_pos y] at hb
            have e : n = b := Option.some.inj hb
            subst e
            refine ⟨by omega, z.1, z.2, fun e he h1 h2 => ?_⟩
            by_cases w : e = n
            · rw [w]; exact Nat.le_refl _
            · have := x4 e (by omega) h1 h2; omega
          · rw [if_neg y] at hb
            have e : x = b := Option.some.inj hb
            subst e
            refine ⟨by omega, x2, x3, fun e he h1 h2 => ?_⟩
            by_cases w : e = n
            · rw [w]; omega
            · exact x4 e (by omega) h1 h2
    · rw [if_neg z]
      refine ⟨fun y e he h1 => ?_, fun b hb => ?_⟩
      · by_cases w : e = n
        · cases v : g e with
          | true => rfl
          | false => rw [w] at v h1; exact absurd ⟨h1, v⟩ z
        · exact i1 y e (by omega) h1
      · obtain ⟨x1, x2, x3, x4⟩ := i2 b hb
        refine ⟨by omega, x2, x3, fun e he h1 h2 => ?_⟩
        by_cases w : e = n
        · rw [w] at h1 h2; exact absurd ⟨h1, h2⟩ z
        · exact x4 e (by omega) h1 h2
/-- the model's tables, behind some of the deals -/
def SM (I0 I : hI_) (g : Nat → Bool) : Prop := agM I0 I ∧ (∀ d, d < nD I0 → I 83 d = nI (aD I0 d) ∧ I 85 d = b2i (g d = true)) ∧ ∀ d, d < nD I0 → g d = true → I 84 d = nI (tk I0 d)
theorem snt_M {I0 I : hI_} (h : Rel I0) (hag : agM I0 I) {d : Nat} (hd : d < nD I0) : snt I (nI d) 0 = nI (pD I0 d) ∧ snt I (nI d) 1 = nI (cD I0 d) ∧ snt I (nI d) 2 = nI (mD I0 d) ∧ snt I (nI d) 3 = nI (uD I0 d) := by
  have hD := (Rel_D h).2.2
  have ok := deal_ok h hd
  have e : ∀ j, j < 4 → snt I (nI d) (nI j) = I0 82 (170 + 4 * d + j) := fun j hj => by rw [snt_nI I (by omega) hj, hag.1 82 rfl]
  exact ⟨(e 0 (by omega)).trans ok.1.1, (e 1 (by omega)).trans ok.2.1.1, (e 2 (by omega)).trans ok.2.2.1.1, (e 3 (by omega)).trans ok.2.2.2.1.1⟩
theorem ahd_k {I0 I : hI_} {g : Nat → Bool} (h : Rel I0) (hs : SM I0 I g) {d e : Nat} (hd : d < nD I0) (he : e < nD I0) : (ahd I (nI d) (nI e) = true) ↔ kD I0 d < kD I0 e := by
  have hD := (Rel_D h).2.2
  have ok := deal_ok h hd
  have ok2 := deal_ok h he
  have r : ∀ x, x < nD I0 → rnk I (nI x) = nI (rkD I0 x) := fun x hx => by
    have okx := deal_ok h hx
    unfold rnk rkD
    rw [hs.1.1 73 rfl, (snt_M h hs.1 hx).2.2.1, nI_clamp (by omega), (hs.2.1 x hx).1, nI_sub (by omega)]
    split
    · rfl
    · split <;> rfl
  unfold ahd
  have r1 := rk_le h hd
  have r2 := rk_le h he
  rw [decide_eq_true_iff, r d hd, r e he, nI_clamp (by omega), nI_clamp (by omega), (hs.2.1 d hd).1, (hs.2.1 e he).1, nI_ltJ (by omega) (by omega), nI_ltJ (by omega) (by omega), nI_ltJ (by omega) (by omega), nI_eqI (by omega) (by omega), nI_eqI (by omega) (by omega), kD_lt h hd he]
theorem pick_loop {E : aE} {P : hI_ → hJ_ → Prop} {I0 I : hI_} {J : hJ_} {g : Nat → Bool} {c : Nat} {lf : Int32} (h : Rel I0) (hc : c < nC I0) (hs : SM I0 I g) (k : HX12_layStruck_93 E P (nI c) lf (enM (nxD I0 c g (nD I0))) (nI (nD I0)) I J) : ∀ (m n : Nat), n + m = nD I0 → HX12_layStruck_93 E P (nI c) lf (enM (nxD I0 c g n)) (nI n) I J
  | 0, n, hn => by
    have e : n = nD I0 := by omega
    rw [e]; exact k
  | m + 1, n, hn => by
    have hD := Rel_D h
    have hC := Rel_C h
    have hnn : n < nD I0 := by omega
    have ok := deal_ok h hnn
    have dn : ∀ j, j < 4 → inD (nI n) (nI j) := fun j hj => inD_nI (by omega) hj
    have vn : vp_in (nI n) 24 := vp_in_nI (by omega) (by omega)
    have nn4 : ∀ x, x < nD I0 → ¬ nI x = -4 := fun x hx => neg4_nI (by omega)
    refine wX12_layStruck_93 ?_
    rw [hs.1.1 82 rfl, hD.2.1, (snt_M h hs.1 hnn).2.1, nI_clamp (by omega), (hs.2.1 n hnn).1, (hs.2.1 n hnn).2, nI_1 n]
    refine ⟨fun z => absurd z (nI_ge (by omega) (by omega)), fun _ => ⟨dn 1 (by omega), fun _ => vn, fun _ _ => vn, fun _ _ => dn 2 (by omega), fun _ y => ?_, ?_⟩⟩
    · cases q : nxD I0 c g n with
      | none => rw [q] at y; exact absurd rfl y
      | some b =>
        have := ((nxD_ok n).2 b q).1
        exact inD_nI (j := 2) (by omega) (by omega)
    · have rc := pick_loop h hc hs k m (n + 1) (by omega)
      have cond : ((nI (cD I0 n) = nI c) ∧ ((b2i (g n = true) = 0) ∧ (¬ ((10000 : Int32) ≤ nI (aD I0 n))))) ↔ (cD I0 n = c ∧ g n = false) := by
        have a1 : ¬ ((10000 : Int32) ≤ nI (aD I0 n)) := nI_ge (b := 10000) (by omega) (by omega)
        rw [nI_eqI (by omega) (by omega)]
        constructor
        · rintro ⟨y1, y2, -⟩
          refine ⟨y1, ?_⟩
          cases q : g n with
          | false => rfl
          | true => rw [q] at y2; exact absurd y2 (by decide)
        · rintro ⟨y1, y2⟩
          rw [y2]
          exact ⟨y1, rfl, a1⟩
      rw [nxD_s] at rc
      by_cases z : cD I0 n = c ∧ g n = false
      · rw [if_pos z] at rc
        rw [if_neg (fun y => y (cond.mpr z))]
        cases q : nxD I0 c g n with
        | none => rw [q] at rc; rw [if_pos (show enM none = -4 from rfl)]; exact rc
        | some b =>
          have hb := ((nxD_ok n).2 b q).1
          rw [q] at rc
          rw [if_neg (show ¬ enM (some b) = -4 from nn4 b (by omega))]
          unfold nxP at rc; dsimp only at rc
          have ak := ahd_k h hs hnn (e := b) (by omega)
          by_cases w : kD I0 n < kD I0 b
          · rw [if_pos w] at rc
            rw [if_neg (fun y => y (show ahd I (nI n) (enM (some b)) = true from ak.mpr w))]; exact rc
          · rw [if_neg w] at rc
            rw [if_pos (show ¬ ahd I (nI n) (enM (some b)) = true from fun y => w (ak.mp y))]; exact rc
      · rw [if_neg z] at rc
        rw [if_pos (fun y => z (cond.mp y))]; exact rc
theorem lu_M {I I2 : hI_} (h : agM I I2) (c : Nat) : lu I2 c = lu I c := by
  unfold lu endN foN bkN mN offB
  simp only [cK_M h, prc_M h]
theorem stB_M {I I2 : hI_} (h : agM I I2) (c t : Int32) : stB I2 c t = stB I c t := by
  unfold stB its
  rw [lu_M h, h.1 82 rfl]
theorem gone_dec {g : Nat → Bool} {b n : Nat} (hb : b < n) (hg : g b = false) : cntB (fun e => !adB g b e) n < cntB (fun e => !g e) n := by
  refine cntB_lt (fun x hx => ?_) (u := b) (by rw [adB_d]; rfl) (by rw [hg]; rfl) n hb
  have hx : (!adB g b x) = true := hx
  show (!g x) = true
  by_cases z : x = b
  · rw [z, hg]; rfl
  · rw [adB_o z] at hx; exact hx
theorem round_loop {E : aE} {P : hI_ → hJ_ → Prop} {I0 : hI_} {J : hJ_} {c : Nat} (h : Rel I0) (hc : c < nC I0) (k : ∀ I2 g2, SM I0 I2 g2 → (∀ e, e < nD I0 → cD I0 e < c + 1 → g2 e = true) → (∀ e, e < nD I0 → c + 1 ≤ cD I0 e → g2 e = false) → HX12_layStruck_65 E P (nI (c + 1)) I2 J) : ∀ (f : Nat) (I : hI_) (g : Nat → Bool), cntB (fun e => !g e) (nD I0) ≤ f → SM I0 I g → (∀ e, e < nD I0 → cD I0 e < c → g e = true) → (∀ e, e < nD I0 → c + 1 ≤ cD I0 e → g e = false) → (∀ e1 e2, e1 < nD I0 → e2 < nD I0 → cD I0 e1 = c → cD I0 e2 = c → g e1 = true → g e2 = false → kD I0 e1 < kD I0 e2) → tot I0 c g ≤ unN I0 c → HX12_layStruck_87 E P (nI c) (nI (unN I0 c - tot I0 c g)) I J := by
  have hD := Rel_D h
  have hC := Rel_C h
  have un := un_ok h hc
  intro f
  induction f using Nat.strongRecOn with
  | ind f ih =>
  intro I g hf hs hA hB hCl ht
  refine wX12_layStruck_87 (pick_loop h hc hs ?_ (nD I0) 0 (by omega))
  obtain ⟨n1, n2⟩ := nxD_ok (nD I0) (I := I0) (c := c) (g := g)
  have ge : I 82 282 ≤ nI (nD I0) := by rw [hs.1.1 82 rfl, hD.2.1]; exact nI_le (Nat.le_refl _) (by omega)
  cases q : nxD I0 c g (nD I0) with
  | none =>
    refine wX12_layStruck_93 ⟨fun _ => ⟨fun _ => ⟨fun z => absurd rfl z, fun _ => ?_⟩, fun z => absurd rfl z⟩, fun z => absurd ge z⟩
    rw [nI_1]
    refine k I g hs (fun e he h1 => ?_) hB
    by_cases w : cD I0 e = c
    · exact n1 q e he w
    · exact hA e he (by omega)
  | some b =>
    obtain ⟨b1, b2, b3, b4⟩ := n2 b q
    have ok := deal_ok h b1
    have vb : vp_in (enM (some b)) 24 := vp_in_nI (by omega) (by omega)
    have ib : inD (enM (some b)) 3 := inD_nI (j := 3) (by omega) (by omega)
    have cb : (enM (some b)).toNatClampNeg = b := nI_clamp (by omega)
    have nb : ¬ enM (some b) = -4 := neg4_nI (by omega)
    have hg5 : agM I0 (upI I 85 b 1) := agM_tr hs.1 (agM_up rfl (by omega))
    have hR5 := Rel_agM hg5 h
    have e3 : snt (upI I 85 b 1) (enM (some b)) 3 = nI (uD I0 b) := (snt_M h hg5 b1).2.2.2
    have T := tot_tk h b1 (g := g) (fun e he hce => by
      rw [b2] at hce
      constructor
      · intro y; exact hCl e b he b1 hce b2 y b3
      · intro y
        cases w : g e with
        | true => rfl
        | false => have := b4 e he hce w; omega)
    rw [b2] at T
    have dec := gone_dec b1 b3
    refine wX12_layStruck_93 ⟨fun _ => ⟨fun z => absurd z nb, fun _ => ?_⟩, fun z => absurd ge z⟩
    rw [cb, e3, stB_M hg5, (hs.2.1 b b1).1]
    have ev : (if ¬ (stB I0 (nI c) (nI (aD I0 b)) = true) then (0 : Int32) else (if nI (unN I0 c - tot I0 c g) ≤ nI (uD I0 b) then nI (unN I0 c - tot I0 c g) else nI (uD I0 b))) = nI (tk I0 b) := by
      rw [T]
      by_cases y : stB I0 (nI c) (nI (aD I0 b)) = true
      · rw [if_neg (fun w => w y), if_pos y]
        by_cases w : unN I0 c - tot I0 c g ≤ uD I0 b
        · rw [if_pos (nI_le w (by omega)), Nat.min_eq_right w]
        · rw [if_neg (nI_ge (by omega) (by omega)), Nat.min_eq_left (by omega)]
      · rw [if_pos y, if_neg y]; rfl
    rw [ev]
    refine ⟨vb, ib, fun _ => ib, vb, ⟨hR5, c, by rw [nC_M hg5]; exact hc, rfl⟩, vb, vb, fun _ => ?_, fun z => absurd z nb⟩
    have hit : ∀ (K : hI_) (x : Int32), upI K 84 b x 84 b = x := fun K x => upI_same
    have tl : tk I0 b ≤ unN I0 c - tot I0 c g := by
      rw [T]; split
      · exact Nat.min_le_right _ _
      · omega
    have ta : tot I0 c (adB g b) = tot I0 c g + tk I0 b := by rw [tot_add b1 b3, if_pos b2]
    rw [hit, nI_sub tl, show unN I0 c - tot I0 c g - tk I0 b = unN I0 c - tot I0 c (adB g b) by omega]
    refine ih (f - 1) (by omega) _ (adB g b) (by omega) ⟨agM_tr hg5 (agM_up rfl (by omega)), fun d hd => ⟨?_, ?_⟩, fun d hd h2 => ?_⟩ (fun e he h1 => ?_) (fun e he h1 => ?_) (fun e1 e2 h1 h2 h3 h4 h5 h6 => ?_) (by omega)
    · rw [upI_at, if_neg (by omega), upI_at, if_neg (by omega)]; exact (hs.2.1 d hd).1
    · rw [upI_at, if_neg (by omega), upI_at]
      by_cases w : d = b
      · rw [if_pos ⟨rfl, w⟩, w, adB_d]; rfl
      · rw [if_neg (fun v => w v.2), adB_o w]; exact (hs.2.1 d hd).2
    · rw [upI_at]
      by_cases w : d = b
      · rw [if_pos ⟨rfl, w⟩, w]
      · rw [if_neg (fun v => w v.2), upI_at, if_neg (by omega)]
        rw [adB_o w] at h2
        exact hs.2.2 d hd h2
    · by_cases w : e = b
      · rw [w]; exact adB_d
      · rw [adB_o w]; exact hA e he h1
    · have w : e ≠ b := fun y => by rw [y] at h1; omega
      rw [adB_o w]; exact hB e he h1
    · have w2 : e2 ≠ b := fun y => by rw [y, adB_d] at h6; cases h6
      rw [adB_o w2] at h6
      by_cases w : e1 = b
      · have := b4 e2 h2 h4 h6
        rw [w]
        rcases Nat.lt_or_ge (kD I0 b) (kD I0 e2) with y | y
        · exact y
        · exact absurd (kD_inj h b1 h2 (by omega)).symm w2
      · rw [adB_o w] at h5
        exact hCl e1 e2 h1 h2 h3 h4 h5 h6
theorem calls_loop {E : aE} {P : hI_ → hJ_ → Prop} {I0 : hI_} {J : hJ_} (h : Rel I0) (k : ∀ I2, SM I0 I2 (fun _ => true) → P I2 J) : ∀ (m c : Nat) (I : hI_) (g : Nat → Bool), c + m = nC I0 → SM I0 I g → (∀ e, e < nD I0 → cD I0 e < c → g e = true) → (∀ e, e < nD I0 → c ≤ cD I0 e → g e = false) → HX12_layStruck_65 E P (nI c) I J
  | 0, c, I, g, hc, hs, hA, hB => by
    have hC := Rel_C h
    refine wX12_layStruck_65 ?_
    rw [hs.1.1 82 rfl, hC.2.1]
    have ga : ∀ e, e < nD I0 → g e = true := fun e he => hA e he (by have := (deal_ok h he).2.1.2; omega)
    refine ⟨fun _ => k I ⟨hs.1, fun d hd => ⟨(hs.2.1 d hd).1, ?_⟩, fun d hd _ => hs.2.2 d hd (ga d hd)⟩, fun z => absurd (nI_le (by omega) (by omega)) z⟩
    rw [(hs.2.1 d hd).2, ga d hd]
  | m + 1, c, I, g, hc, hs, hA, hB => by
    have hC := Rel_C h
    have hcc : c < nC I0 := by omega
    have un := un_ok h hcc
    refine wX12_layStruck_65 ?_
    rw [hs.1.1 82 rfl, hC.2.1]
    refine ⟨fun z => absurd z (nI_ge (by omega) (by omega)), fun _ => ⟨inC_nI (j := 4) (by omega) (by omega), ?_⟩⟩
    have e4 : its I (nI c) 4 = nI (unN I0 c) := by
      refine (its_cK (I := I) (c := c) (j := 4) (by omega) (by omega)).trans ?_
      rw [← un.1]; exact cK_M hs.1 c 4
    have t0 : tot I0 c g = 0 := tot_none (fun e he h1 => hB e he (by omega))
    have := round_loop (E := E) (P := P) (J := J) h hcc (fun I2 g2 a1 a2 a3 => calls_loop h k m (c + 1) I2 g2 (by omega) a1 a2 a3) (cntB (fun e => !g e) (nD I0)) I g (Nat.le_refl _) hs hA (fun e he h1 => hB e he (by omega)) (fun e1 e2 h1 h2 h3 h4 h5 h6 => by rw [hB e1 h1 (by omega)] at h5; cases h5) (by omega)
    rw [t0, Nat.sub_zero] at this
    rw [e4]; exact this
theorem lay_loop {E : aE} {P : hI_ → hJ_ → Prop} {I0 : hI_} {J : hJ_} (h : Rel I0) (k : ∀ I2, SM I0 I2 (fun _ => true) → P I2 J) : ∀ (m d : Nat) (I : hI_), d + m = nD I0 → agM I0 I → (∀ j, j < d → I 83 j = nI (aD I0 j) ∧ I 85 j = 0) → HX12_layStruck_2 E P (nI d) I J
  | 0, d, I, hd, hag, q => by
    have hD := Rel_D h
    refine wX12_layStruck_2 ?_
    rw [hag.1 82 rfl, hD.2.1]
    refine ⟨fun _ => ?_, fun z => absurd (nI_le (by omega) (by omega)) z⟩
    exact calls_loop h k (nC I0) 0 I (fun _ => false) (by omega) ⟨hag, fun e he => q e (by omega), fun _ _ y => by cases y⟩ (fun e he h1 => by omega) (fun _ _ _ => rfl)
  | m + 1, d, I, hd, hag, q => by
    have hD := Rel_D h
    have hC := Rel_C h
    have hP := Rel_P h
    have hR := Rel_agM hag h
    have hdd : d < nD I0 := by omega
    have ok := deal_ok h hdd
    have sn := snt_M h hag hdd
    have hq := cK_q h ok.2.1.2
    have dn : ∀ j, j < 4 → inD (nI d) (nI j) := fun j hj => inD_nI (by omega) hj
    have vd : vp_in (nI d) 24 := vp_in_nI (by omega) (by omega)
    have e0 : its I (nI (cD I0 d)) 0 = nI (qN I0 (cD I0 d)) := by
      refine (its_cK (I := I) (j := 0) (by omega) (by omega)).trans ?_
      rw [← hq.1]; exact cK_M hag _ 0
    refine wX12_layStruck_2 ?_
    rw [hag.1 82 rfl, hD.2.1, sn.1, sn.2.1, sn.2.2.1, e0, nI_clamp (by omega), nI_1]
    refine ⟨fun z => absurd z (nI_ge (by omega) (by omega)), fun _ => ⟨dn 0 (by omega), dn 1 (by omega), inC_nI (j := 0) (by omega) (by omega), dn 2 (by omega), ?_⟩⟩
    refine tX12_news hR (by omega) (by omega) (by omega) (fun I2 h2 => ⟨vd, vd, vd, ?_⟩)
    rw [wI_M hag]
    refine lay_loop h k m (d + 1) _ (by omega) (agM_tr hag (agM_tr (ag1_M rfl (by omega) h2) (agM_tr (agM_up rfl (by omega)) (agM_tr (agM_up rfl (by omega)) (agM_up rfl (by omega)))))) (fun j hj => ?_)
    by_cases e : j = d
    · rw [e]
      refine ⟨?_, upI_same⟩
      rw [upI_at, if_neg (by omega), upI_at, if_neg (by omega)]; exact upI_same
    · refine ⟨?_, ?_⟩
      · rw [upI_at, if_neg (by omega), upI_at, if_neg (by omega), upI_at, if_neg (fun w => e w.2), h2 83 (by omega)]; exact (q j (by omega)).1
      · rw [upI_at, if_neg (fun w => e w.2), upI_at, if_neg (by omega), upI_at, if_neg (by omega), h2 85 (by omega)]; exact (q j (by omega)).2
theorem tX12_layStruck {E : aE} {P : hI_ → hJ_ → Prop} {I : hI_} {J : hJ_} (h : Rel I) (k : ∀ I2, SM I I2 (fun _ => true) → P I2 J) : CallV E mX12_layStruck [.ref 68] SH I J P := wX12_layStruck (lay_loop h k (nD I) 0 I (by omega) agM_rf (fun j hj => by omega))
