def HX12_readRule_17 (E : aE) (P : hI_ → hJ_ → Prop) (v1 : Int32) (I : hI_) (J : hJ_) : Prop := V E mX12_readRule (kV SH P) 17 [.ref 68, .int v1, .retAddr 0, .retAddr 0, .retAddr 0] [] (SH, I, J) (0, 0)
def HX12_readRule_81 (E : aE) (P : hI_ → hJ_ → Prop) (v2 : Int32) (v3 : Int32) (v4 : Int32) (I : hI_) (J : hJ_) : Prop := V E mX12_readRule (kV SH P) 81 [.ref 68, .retAddr 0, .int v2, .int v3, .int v4] [] (SH, I, J) (0, 0)
def HX12_readRule_139 (E : aE) (P : hI_ → hJ_ → Prop) (v2 : Int32) (I : hI_) (J : hJ_) : Prop := V E mX12_readRule (kV SH P) 139 [.ref 68, .retAddr 0, .int v2, .retAddr 0, .retAddr 0] [] (SH, I, J) (0, 0)
def HX12_readRule_168 (E : aE) (P : hI_ → hJ_ → Prop)  (I : hI_) (J : hJ_) : Prop := V E mX12_readRule (kV SH P) 168 [.ref 68, .retAddr 0, .retAddr 0, .retAddr 0, .retAddr 0] [] (SH, I, J) (0, 0)
set_option maxHeartbeats 4000000 in
set_option maxRecDepth 20000 in
theorem wX12_readRule {E : aE} {P : hI_ → hJ_ → Prop} {I : hI_} {J : hJ_} {a0 : Int32} (k : ((¬ (((I 68 20) >>> (a0 &&& 31)) &&& (1 : Int32)) = (1 : Int32) → HX12_readRule_17 E P a0 I J) ∧ ((((I 68 20) >>> (a0 &&& 31)) &&& (1 : Int32)) = (1 : Int32) → CallV E mX12_fails [.ref 68, .int (4 : Int32)] SH I J (fun I3 J4 => HX12_readRule_17 E P a0 I3 J4)))) : CallV E mX12_readRule [.ref 68, .int a0] SH I J P := by
  refine Call_of (L := [.ref 68, .int a0, .retAddr 0, .retAddr 0, .retAddr 0]) ok_X12_readRule.1 rfl rfl ?_
  refine V_aload_n dX12_readRule_0 rfl ?_
  refine U_getI dX12_readRule_1 fl_X12_139 s_68 rfl ?_
  refine V_iload_n dX12_readRule_4 rfl ?_
  refine V_ishr dX12_readRule_5 ?_
  refine V_iconst (v := (1 : Int32)) dX12_readRule_6 rfl ?_
  refine V_iand dX12_readRule_7 ?_
  refine V_iconst (v := (1 : Int32)) dX12_readRule_8 rfl ?_
  refine V_icmp_ne dX12_readRule_9 (fun c1 => ?_) (fun c1 => ?_)
  · have k := k.1 c1
    exact k
  · have k := k.2 c1
    refine V_aload_n dX12_readRule_12 rfl ?_
    refine V_iconst (v := (4 : Int32)) dX12_readRule_13 rfl ?_
    refine U_callV0 [.int (4 : Int32)] dX12_readRule_14 ov_X12_125 s_68 rfl ⟨rfl, rfl, rfl⟩ rfl rfl rfl (CallV_mono k (fun I3 J4 k => ?_))
    exact k
set_option maxHeartbeats 4000000 in
set_option maxRecDepth 20000 in
theorem wX12_readRule_17 {E : aE} {P : hI_ → hJ_ → Prop} {I : hI_} {J : hJ_} {v1 : Int32} (k : CallV E mX12_next [.ref 68] SH (upI I 68 20 ((I 68 20) ||| ((1 : Int32) <<< (v1 &&& 31)))) J (fun I2 J3 => ((¬ v1 = (3 : Int32) → ((¬ v1 = (4 : Int32) → CallI E mX12_here [.ref 68, .int (1 : Int32), .int (999 : Int32)] SH I2 J3 (fun x6 I7 J8 => HX12_readRule_168 E P  (upI I7 77 7 x6) J8)) ∧ (v1 = (4 : Int32) → ((¬ (I2 68 3) = (0 : Int32) → HX12_readRule_139 E P (6 : Int32) I2 J3) ∧ ((I2 68 3) = (0 : Int32) → CallI E mX12_nameHere [.ref 68] SH I2 J3 (fun x10 I11 J12 => (((6 : Int32) ≤ x10 → HX12_readRule_139 E P x10 I11 J12) ∧ (¬ ((6 : Int32) ≤ x10) → CallV E mX12_fails [.ref 68, .int (2 : Int32)] SH I11 J12 (fun I15 J16 => HX12_readRule_139 E P x10 I15 J16))))))))) ∧ (v1 = (3 : Int32) → CallI E mX12_number [.ref 68, .int (0 : Int32), .int (4 : Int32)] SH I2 J3 (fun x17 I18 J19 => CallI E mX12_number [.ref 68, .int (0 : Int32), .int (4 : Int32)] SH I18 J19 (fun x20 I21 J22 => CallI E mX12_here [.ref 68, .int (0 : Int32), .int (4 : Int32)] SH I21 J22 (fun x23 I24 J25 => ((¬ (I24 68 3) = (0 : Int32) → HX12_readRule_81 E P x17 x20 x23 I24 J25) ∧ ((I24 68 3) = (0 : Int32) → ((¬ ((x17 + x20) + x23) = (0 : Int32) → HX12_readRule_81 E P x17 x20 x23 I24 J25) ∧ (((x17 + x20) + x23) = (0 : Int32) → CallV E mX12_fails [.ref 68, .int (3 : Int32)] SH I24 J25 (fun I29 J30 => HX12_readRule_81 E P x17 x20 x23 I29 J30)))))))))))) : HX12_readRule_17 E P v1 I J := by
  show V E mX12_readRule (kV SH P) 17 [.ref 68, .int v1, .retAddr 0, .retAddr 0, .retAddr 0] [] (SH, I, J) (0, 0)
  refine V_aload_n dX12_readRule_17 rfl ?_
  refine V_dupR dX12_readRule_18 ?_
  refine U_getI dX12_readRule_19 fl_X12_139 s_68 rfl ?_
  refine V_iconst (v := (1 : Int32)) dX12_readRule_22 rfl ?_
  refine V_iload_n dX12_readRule_23 rfl ?_
  refine V_ishl dX12_readRule_24 ?_
  refine V_ior dX12_readRule_25 ?_
  refine U_putI dX12_readRule_26 fp_X12_139 s_68 rfl ?_
  refine V_aload_n dX12_readRule_29 rfl ?_
  refine U_callV0 [] dX12_readRule_30 ov_X12_133 s_68 rfl ⟨rfl, rfl, rfl⟩ rfl rfl rfl (CallV_mono k (fun I2 J3 k => ?_))
  refine V_iload_n dX12_readRule_33 rfl ?_
  refine V_iconst (v := (3 : Int32)) dX12_readRule_34 rfl ?_
  refine V_icmp_ne dX12_readRule_35 (fun c4 => ?_) (fun c4 => ?_)
  · have k := k.1 c4
    refine V_iload_n dX12_readRule_106 rfl ?_
    refine V_iconst (v := (4 : Int32)) dX12_readRule_107 rfl ?_
    refine V_icmp_ne dX12_readRule_108 (fun c5 => ?_) (fun c5 => ?_)
    · have k := k.1 c5
      refine V_aload_n dX12_readRule_153 rfl ?_
      refine U_getR dX12_readRule_154 fl_X12_34 s_68 rfl ?_
      refine V_bipush (v := (7 : Int32)) dX12_readRule_157 rfl ?_
      refine V_aload_n dX12_readRule_159 rfl ?_
      refine V_iconst (v := (1 : Int32)) dX12_readRule_160 rfl ?_
      refine V_sipush (v := (999 : Int32)) dX12_readRule_161 rfl ?_
      refine U_callV1 [.int (1 : Int32), .int (999 : Int32)] dX12_readRule_164 ov_X12_129 s_68 rfl ⟨rfl, rfl, rfl⟩ rfl rfl rfl (CallI_mono k (fun x6 I7 J8 k => ?_))
      refine U_iast dX12_readRule_167 s_77 (by unfold vp_in; decide) ?_
      exact V_wk (wk_eq (wk_j (wk_j (wk_j (wk_j (wk_nil)))))) k
    · have k := k.2 c5
      refine V_aload_n dX12_readRule_111 rfl ?_
      refine U_getI dX12_readRule_112 fl_X12_95 s_68 rfl ?_
      refine V_if_ne dX12_readRule_115 (fun c9 => ?_) (fun c9 => ?_)
      · have k := k.1 c9
        refine V_bipush (v := (6 : Int32)) dX12_readRule_125 rfl ?_
        refine U_istore_n (L2 := [.ref 68, .int v1, .int (6 : Int32), .retAddr 0, .retAddr 0]) dX12_readRule_127 (by decide) rfl ?_
        refine V_iload_n dX12_readRule_128 rfl ?_
        refine V_bipush (v := (6 : Int32)) dX12_readRule_129 rfl ?_
        refine V_icmp_ge dX12_readRule_131 (fun _ => ?_) (fun q => absurd q (by decide))
        exact V_wk (wk_eq (wk_j (wk_eq (wk_j (wk_j (wk_nil)))))) k
      · have k := k.2 c9
        refine V_aload_n dX12_readRule_118 rfl ?_
        refine U_callV1 [] dX12_readRule_119 ov_X12_142 s_68 rfl ⟨rfl, rfl, rfl⟩ rfl rfl rfl (CallI_mono k (fun x10 I11 J12 k => ?_))
        refine V_goto dX12_readRule_122 ?_
        refine U_istore_n (L2 := [.ref 68, .int v1, .int x10, .retAddr 0, .retAddr 0]) dX12_readRule_127 (by decide) rfl ?_
        refine V_iload_n dX12_readRule_128 rfl ?_
        refine V_bipush (v := (6 : Int32)) dX12_readRule_129 rfl ?_
        refine V_icmp_ge dX12_readRule_131 (fun c13 => ?_) (fun c13 => ?_)
        · have k := k.1 c13
          exact V_wk (wk_eq (wk_j (wk_eq (wk_j (wk_j (wk_nil)))))) k
        · have k := k.2 c13
          refine V_aload_n dX12_readRule_134 rfl ?_
          refine V_iconst (v := (2 : Int32)) dX12_readRule_135 rfl ?_
          refine U_callV0 [.int (2 : Int32)] dX12_readRule_136 ov_X12_125 s_68 rfl ⟨rfl, rfl, rfl⟩ rfl rfl rfl (CallV_mono k (fun I15 J16 k => ?_))
          exact V_wk (wk_eq (wk_j (wk_eq (wk_j (wk_j (wk_nil)))))) k
  · have k := k.2 c4
    refine V_aload_n dX12_readRule_38 rfl ?_
    refine V_iconst (v := (0 : Int32)) dX12_readRule_39 rfl ?_
    refine V_iconst (v := (4 : Int32)) dX12_readRule_40 rfl ?_
    refine U_callV1 [.int (0 : Int32), .int (4 : Int32)] dX12_readRule_41 ov_X12_136 s_68 rfl ⟨rfl, rfl, rfl⟩ rfl rfl rfl (CallI_mono k (fun x17 I18 J19 k => ?_))
    refine U_istore_n (L2 := [.ref 68, .int v1, .int x17, .retAddr 0, .retAddr 0]) dX12_readRule_44 (by decide) rfl ?_
    refine V_aload_n dX12_readRule_45 rfl ?_
    refine V_iconst (v := (0 : Int32)) dX12_readRule_46 rfl ?_
    refine V_iconst (v := (4 : Int32)) dX12_readRule_47 rfl ?_
    refine U_callV1 [.int (0 : Int32), .int (4 : Int32)] dX12_readRule_48 ov_X12_136 s_68 rfl ⟨rfl, rfl, rfl⟩ rfl rfl rfl (CallI_mono k (fun x20 I21 J22 k => ?_))
    refine U_istore_n (L2 := [.ref 68, .int v1, .int x17, .int x20, .retAddr 0]) dX12_readRule_51 (by decide) rfl ?_
    refine V_aload_n dX12_readRule_52 rfl ?_
    refine V_iconst (v := (0 : Int32)) dX12_readRule_53 rfl ?_
    refine V_iconst (v := (4 : Int32)) dX12_readRule_54 rfl ?_
    refine U_callV1 [.int (0 : Int32), .int (4 : Int32)] dX12_readRule_55 ov_X12_129 s_68 rfl ⟨rfl, rfl, rfl⟩ rfl rfl rfl (CallI_mono k (fun x23 I24 J25 k => ?_))
    refine U_istore (L2 := [.ref 68, .int v1, .int x17, .int x20, .int x23]) dX12_readRule_58 (by decide) rfl ?_
    refine V_aload_n dX12_readRule_60 rfl ?_
    refine U_getI dX12_readRule_61 fl_X12_95 s_68 rfl ?_
    refine V_if_ne dX12_readRule_64 (fun c26 => ?_) (fun c26 => ?_)
    · have k := k.1 c26
      exact V_wk (wk_eq (wk_j (wk_eq (wk_eq (wk_eq (wk_nil)))))) k
    · have k := k.2 c26
      refine V_iload_n dX12_readRule_67 rfl ?_
      refine V_iload_n dX12_readRule_68 rfl ?_
      refine V_iadd dX12_readRule_69 ?_
      refine V_iload dX12_readRule_70 rfl ?_
      refine V_iadd dX12_readRule_72 ?_
      refine V_if_ne dX12_readRule_73 (fun c27 => ?_) (fun c27 => ?_)
      · have k := k.1 c27
        exact V_wk (wk_eq (wk_j (wk_eq (wk_eq (wk_eq (wk_nil)))))) k
      · have k := k.2 c27
        refine V_aload_n dX12_readRule_76 rfl ?_
        refine V_iconst (v := (3 : Int32)) dX12_readRule_77 rfl ?_
        refine U_callV0 [.int (3 : Int32)] dX12_readRule_78 ov_X12_125 s_68 rfl ⟨rfl, rfl, rfl⟩ rfl rfl rfl (CallV_mono k (fun I29 J30 k => ?_))
        exact V_wk (wk_eq (wk_j (wk_eq (wk_eq (wk_eq (wk_nil)))))) k
set_option maxHeartbeats 4000000 in
set_option maxRecDepth 20000 in
theorem wX12_readRule_81 {E : aE} {P : hI_ → hJ_ → Prop} {I : hI_} {J : hJ_} {v2 : Int32} {v3 : Int32} {v4 : Int32} (k : HX12_readRule_168 E P  (upI (upI (upI I 77 3 v2) 77 4 v3) 77 5 v4) J) : HX12_readRule_81 E P v2 v3 v4 I J := by
  show V E mX12_readRule (kV SH P) 81 [.ref 68, .retAddr 0, .int v2, .int v3, .int v4] [] (SH, I, J) (0, 0)
  refine V_aload_n dX12_readRule_81 rfl ?_
  refine U_getR dX12_readRule_82 fl_X12_34 s_68 rfl ?_
  refine V_iconst (v := (3 : Int32)) dX12_readRule_85 rfl ?_
  refine V_iload_n dX12_readRule_86 rfl ?_
  refine U_iast dX12_readRule_87 s_77 (by unfold vp_in; decide) ?_
  refine V_aload_n dX12_readRule_88 rfl ?_
  refine U_getR dX12_readRule_89 fl_X12_34 s_68 rfl ?_
  refine V_iconst (v := (4 : Int32)) dX12_readRule_92 rfl ?_
  refine V_iload_n dX12_readRule_93 rfl ?_
  refine U_iast dX12_readRule_94 s_77 (by unfold vp_in; decide) ?_
  refine V_aload_n dX12_readRule_95 rfl ?_
  refine U_getR dX12_readRule_96 fl_X12_34 s_68 rfl ?_
  refine V_iconst (v := (5 : Int32)) dX12_readRule_99 rfl ?_
  refine V_iload dX12_readRule_100 rfl ?_
  refine U_iast dX12_readRule_102 s_77 (by unfold vp_in; decide) ?_
  refine V_goto dX12_readRule_103 ?_
  exact V_wk (wk_eq (wk_j (wk_j (wk_j (wk_j (wk_nil)))))) k
set_option maxHeartbeats 4000000 in
set_option maxRecDepth 20000 in
theorem wX12_readRule_139 {E : aE} {P : hI_ → hJ_ → Prop} {I : hI_} {J : hJ_} {v2 : Int32} (k : HX12_readRule_168 E P  (upI I 77 6 (v2 - (6 : Int32))) J) : HX12_readRule_139 E P v2 I J := by
  show V E mX12_readRule (kV SH P) 139 [.ref 68, .retAddr 0, .int v2, .retAddr 0, .retAddr 0] [] (SH, I, J) (0, 0)
  refine V_aload_n dX12_readRule_139 rfl ?_
  refine U_getR dX12_readRule_140 fl_X12_34 s_68 rfl ?_
  refine V_bipush (v := (6 : Int32)) dX12_readRule_143 rfl ?_
  refine V_iload_n dX12_readRule_145 rfl ?_
  refine V_bipush (v := (6 : Int32)) dX12_readRule_146 rfl ?_
  refine V_isub dX12_readRule_148 ?_
  refine U_iast dX12_readRule_149 s_77 (by unfold vp_in; decide) ?_
  refine V_goto dX12_readRule_150 ?_
  exact V_wk (wk_eq (wk_j (wk_j (wk_j (wk_j (wk_nil)))))) k
set_option maxHeartbeats 4000000 in
set_option maxRecDepth 20000 in
theorem wX12_readRule_168 {E : aE} {P : hI_ → hJ_ → Prop} {I : hI_} {J : hJ_}  (k : CallV E mX12_next [.ref 68] SH I J (fun I2 J3 => P I2 J3)) : HX12_readRule_168 E P  I J := by
  show V E mX12_readRule (kV SH P) 168 [.ref 68, .retAddr 0, .retAddr 0, .retAddr 0, .retAddr 0] [] (SH, I, J) (0, 0)
  refine V_aload_n dX12_readRule_168 rfl ?_
  refine U_callV0 [] dX12_readRule_169 ov_X12_133 s_68 rfl ⟨rfl, rfl, rfl⟩ rfl rfl rfl (CallV_mono k (fun I2 J3 k => ?_))
  exact V_vret dX12_readRule_172 rfl rfl rfl ⟨_, _, rfl, k⟩
theorem rb168 {E : aE} {P : hI_ → hJ_ → Prop} {I : hI_} {J : hJ_} {c : Nat} (h : I 68 3 = nI c) (hc : 0 < c) (hc2 : c < 100) (k : P I J) : HX12_readRule_168 E P I J := wX12_readRule_168 (tX12_nextN h hc hc2 k)
theorem rb17 {E : aE} {P : hI_ → hJ_ → Prop} {I : hI_} {J : hJ_} {c : Nat} {v1 : Int32} (h : I 68 3 = nI c) (hc : 0 < c) (hc2 : c < 100) (k : ∀ I2, frQ I I2 → I2 68 3 = nI c → I2 68 4 = I 68 4 → P I2 J) : HX12_readRule_17 E P v1 I J := by
  refine wX12_readRule_17 ?_
  generalize hG : upI I 68 20 ((I 68 20) ||| ((1) <<< (v1 &&& 31))) = G
  have fG : frQ I G := by rw [← hG]; exact frQ_20
  have g3 : G 68 3 = nI c := by rw [← hG, upI_at, if_neg (by omega)]; exact h
  have g4 : G 68 4 = I 68 4 := by rw [← hG, upI_at, if_neg (by omega)]
  have n0 := wr_ne g3 hc hc2
  have kk : ∀ (I2 : hI_), frQ G I2 → I2 68 3 = G 68 3 → I2 68 4 = G 68 4 → HX12_readRule_168 E P I2 J := fun I2 f a b => rb168 (a.trans g3) hc hc2 (k I2 (frQ_tr fG f) (a.trans g3) (b.trans g4))
  have u : ∀ (K : hI_) (j : Nat) (v : Int32) (i : Nat), (upI K 77 j v) 68 i = K 68 i := fun K j v i => by rw [upI_at, if_neg (by omega)]
  refine tX12_nextN g3 hc hc2 ⟨fun z3 => ⟨fun z4 => tX12_hereN g3 hc hc2 (kk _ (frQ_up (by omega)) (u _ _ _ _) (u _ _ _ _)), fun z4 => ⟨fun _ => wX12_readRule_139 (kk _ (frQ_up (by omega)) (u _ _ _ _) (u _ _ _ _)), fun y => absurd y n0⟩⟩, fun z3 => tX12_numberN g3 hc hc2 (tX12_numberN g3 hc hc2 (tX12_hereN g3 hc hc2 ⟨fun _ => wX12_readRule_81 (kk _ (frQ_tr (frQ_up (by omega)) (frQ_tr (frQ_up (by omega)) (frQ_up (by omega)))) (by rw [u, u, u]) (by rw [u, u, u])), fun y => absurd y n0⟩))⟩
theorem told_b {E : aE} {P : hI_ → hJ_ → Prop} {n : Nat} {B : Nat → Nat} {I : hI_} {J : hJ_} {k0 i : Nat} {D : Nat → Nat} {r : Nat × Nat × Nat × (Nat → Nat)} (hT : MT n B k0 I) (h4 : tK n B k0 ≠ 4) (hi : i < 24) (hb : tb (I 68 20) i = true) (hr : r = (4, tS n B k0, 0, D)) (kk : LMc n B I J r P) : CallV E mX12_readRule [.ref 68, .int (nI i)] SH I J P := by
  have hw := (hT.2.2.2 h4).1
  refine wX12_readRule ⟨fun z => absurd ((tb_1 hi).mpr hb) z, fun _ => tX12_failsY hw ?_⟩
  have ff := mfail_st (c := 4) (frQ_M (frM_rf (I := I))) hT
  exact rb17 ff.2.1 (by omega) (by omega) (fun I2 f a b => MLB kk hr (by omega) (frQ_tr ff.1 f) a (b.trans ff.2.2))
theorem told_g {E : aE} {P : hI_ → hJ_ → Prop} {I : hI_} {J : hJ_} {i : Nat} (hi : i < 24) (hb : tb (I 68 20) i = false) (k : HX12_readRule_17 E P (nI i) I J) : CallV E mX12_readRule [.ref 68, .int (nI i)] SH I J P := by
  refine wX12_readRule ⟨fun _ => k, fun z => ?_⟩
  rw [(tb_1 hi).mp z] at hb
  cases hb
/-- the flag set: the rest stays -/
theorem MT_20 {n : Nat} {B : Nat → Nat} {k : Nat} {I : hI_} {v : Int32} (h : MT n B k I) : MT n B k (upI I 68 20 v) := MT_up h (by omega)
theorem tX12_readMoves {E : aE} {P : hI_ → hJ_ → Prop} {n : Nat} {B : Nat → Nat} {I : hI_} {J : hJ_} {k0 : Nat} {D : Nat → Nat} (h : MB n B I) (hk : k0 ≤ n) (hT : MT n B k0 I) (h4 : tK n B k0 ≠ 4) (hD : MD D I) (ok : DOK D) (kk : LMc n B I J (lnMoves n B k0 (tE n B k0) D) P) : CallV E mX12_readRule [.ref 68, .int (nI 3)] SH I J P := by
  have o1 := ok.1
  have he := (tE_b (B := B) hk).2.1
  have he2 := (tE_b (B := B) he).2.1
  have he3 := (tE_b (B := B) he2).2.1
  unfold lnMoves at kk
  have hT0 := hT.1
  have hw := (hT.2.2.2 h4).1
  generalize hk1 : tE n B k0 = k1 at *
  generalize hk2 : tE n B k1 = k2 at *
  generalize hk3 : tE n B k2 = k3 at *
  have cl : ∀ k lo hx, cN_ n B k lo hx ≠ 0 → 0 < cN_ n B k lo hx ∧ cN_ n B k lo hx < 100 := fun k lo hx y => by
    have := cN3 (n := n) (B := B) (k := k) (lo := lo) (hx := hx)
    omega
  obtain ⟨b1, b2, b3, b4, t3, t4, t5⟩ := hD
  by_cases z0 : D 8 = 0
  · refine told_g (by omega) (by rw [t3]; exact decide_eq_false (fun y => y z0)) ?_
    have z0' : ¬ ¬ D 8 = 0 := fun y => y z0
    refine wX12_readRule_17 ?_
    generalize hG : upI I 68 20 ((I 68 20) ||| ((1) <<< (nI 3 &&& 31))) = G
    have fG : frQ I G := by rw [← hG]; exact frQ_20
    have g3 : G 68 3 = 0 := by rw [← hG, upI_at, if_neg (by omega)]; exact hw
    have g5 : G 68 5 = nI k1 := by rw [← hG, upI_at, if_neg (by omega)]; exact hT0
    have gb : G 68 20 = (I 68 20) ||| ((1) <<< (nI 3 &&& 31)) := by rw [← hG]; exact upI_same
    refine tX12_nextY (MB_Q h fG) g3 g5 he (fun I1 f1 hT1 => ⟨fun y => absurd rfl y, fun _ => ?_⟩)
    have q1 := frQ_tr fG (frQ_M f1)
    refine tX12_numberY (lo := 0) (hx := 5) (MB_Q h q1) he hT1 rfl (by omega) (by omega) (fun c1 I2 f2 hT2 => ?_) (fun c1 I2 f2 a3 a4 => ?_)
    · rw [hk2] at hT2
      have q2 := frQ_tr q1 (frQ_M f2)
      refine tX12_numberY (lo := 0) (hx := 5) (MB_Q h q2) he2 hT2 rfl (by omega) (by omega) (fun c2 I3 f3 hT3 => ?_) (fun c2 I3 f3 a3 a4 => ?_)
      · rw [hk3] at hT3
        have q3 := frQ_tr q2 (frQ_M f3)
        refine tX12_hereY (lo := 0) (hx := 5) hT3 rfl (by omega) (by omega) (fun c3 => ?_) (fun c3 I4 f4 a3 a4 => ?_)
        · have d1 := cN0.mp c1
          have d2 := cN0.mp c2
          have d3 := cN0.mp c3
          have w3 := (hT3.2.2.2 (by omega)).1
          rw [nI_add, nI_add]
          have es : (nI (tV n B k1 + tV n B k2 + tV n B k3) = 0) ↔ tV n B k1 + tV n B k2 + tV n B k3 = 0 := nI_eqI (b := 0) (by omega) (by omega)
          refine ⟨fun y => absurd w3 y, fun _ => ⟨fun y => ?_, fun y => ?_⟩⟩
          · have y : ¬ tV n B k1 + tV n B k2 + tV n B k3 = 0 := fun w => y (es.mpr w)
            refine wX12_readRule_81 (wX12_readRule_168 ?_)
            generalize hF : upI (upI (upI I3 77 3 (nI (tV n B k1))) 77 4 (nI (tV n B k2))) 77 5 (nI (tV n B k3)) = F
            have fF : frQ I3 F := by rw [← hF]; exact frQ_tr (frQ_up (by omega)) (frQ_tr (frQ_up (by omega)) (frQ_up (by omega)))
            have hTF : MT n B k3 F := by rw [← hF]; exact MT_up (MT_up (MT_up hT3 (by omega)) (by omega)) (by omega)
            have qF := frQ_tr q3 fF
            refine tX12_nextY (MB_Q h qF) (hTF.2.2.2 (by omega)).1 hTF.1 (tE_b (B := B) he3).2.1 (fun I5 f5 hT5 => ?_)
            refine MLG kk (by unfold lnMoves3; rw [if_neg z0', if_pos c1, if_pos c2, if_pos c3, if_neg y]) (frQ_tr qF (frQ_M f5)) hT5 (fun _ => MD_M ?_ f5)
            have f13 := frM_tr f1 (frM_tr f2 f3)
            have Go : ∀ a, a ≠ 68 → F a = if a = 77 then F 77 else I a := fun a ha => by
              by_cases w : a = 77
              · rw [if_pos w, w]
              · rw [if_neg w, ← hF]; funext j
                rw [upI_at, if_neg (fun u => w u.1), upI_at, if_neg (fun u => w u.1), upI_at, if_neg (fun u => w u.1), f13.1 a ha, ← hG, upI_at, if_neg (fun u => ha u.1)]
            have g78 : F 78 = I 78 := Go 78 (by omega)
            have g79 : F 79 = I 79 := Go 79 (by omega)
            have g80 : F 80 = I 80 := Go 80 (by omega)
            have g77 : ∀ j, j ≠ 3 → j ≠ 4 → j ≠ 5 → F 77 j = I 77 j := fun j x1 x2 x3 => by
              rw [← hF, upI_at, if_neg (fun u => x3 u.2), upI_at, if_neg (fun u => x2 u.2), upI_at, if_neg (fun u => x1 u.2), f13.1 77 (by omega), ← hG, upI_at, if_neg (by omega)]
            have g20 : F 68 20 = (I 68 20) ||| ((1) <<< (nI 3 &&& 31)) := by
              rw [← hF, upI_at, if_neg (by omega), upI_at, if_neg (by omega), upI_at, if_neg (by omega), f13.2 20 (by omega)]; exact gb
            unfold dMoves
            refine ⟨fun j hj => ?_, fun i hi => ?_, fun q hq => ?_, fun j hj => ?_, ?_, ?_, ?_⟩
            · by_cases w3 : j = 3
              · rw [w3, ← hF, upI_at, if_neg (by omega), upI_at, if_neg (by omega), upI_at, if_pos ⟨rfl, rfl⟩]; rfl
              · by_cases w4 : j = 4
                · rw [w4, ← hF, upI_at, if_neg (by omega), upI_at, if_pos ⟨rfl, rfl⟩]; rfl
                · by_cases w5 : j = 5
                  · rw [w5, ← hF, upI_at, if_pos ⟨rfl, rfl⟩]; rfl
                  · rw [g77 j w3 w4 w5, upN_o (by omega), upN_o w5, upN_o w4, upN_o w3]; exact b1 j hj
            · have hi : i < D 0 := hi
              rw [g78, upN_o (by omega), upN_o (by omega), upN_o (by omega), upN_o (by omega)]; exact b2 i hi
            · rw [g79, upN_o (by omega), upN_o (by omega), upN_o (by omega), upN_o (by omega)]; exact b3 q hq
            · have hj : j < 4 * D 2 := hj
              rw [g80, upN_o (by omega), upN_o (by omega), upN_o (by omega), upN_o (by omega)]; exact b4 j hj
            · rw [g20, tb_or (by omega) (by omega)]
              show (_ || true) = true
              rw [Bool.or_true]
            · rw [g20, tb_or (by omega) (by omega), t4]
              show (_ || false) = _
              rw [Bool.or_false]; rfl
            · rw [g20, tb_or (by omega) (by omega), t5]
              show (_ || false) = _
              rw [Bool.or_false]; rfl
          · have y := es.mp y
            have ff := mfail_st (c := 3) q3 hT3
            have u : ∀ (K : hI_) (j : Nat) (v : Int32) (i : Nat), (upI K 77 j v) 68 i = K 68 i := fun K j v i => by rw [upI_at, if_neg (by omega)]
            refine tX12_failsY w3 (wX12_readRule_81 (rb168 (c := 3) (by rw [u, u, u]; exact ff.2.1) (by omega) (by omega) ?_))
            exact MLB kk (by unfold lnMoves3; rw [if_neg z0', if_pos c1, if_pos c2, if_pos c3, if_pos y]) (by omega) (frQ_tr ff.1 (frQ_tr (frQ_up (by omega)) (frQ_tr (frQ_up (by omega)) (frQ_up (by omega))))) (by rw [u, u, u]; exact ff.2.1) (by rw [u, u, u]; exact ff.2.2)
        · have cc := cl _ _ _ c3
          have u : ∀ (K : hI_) (j : Nat) (v : Int32) (i : Nat), (upI K 77 j v) 68 i = K 68 i := fun K j v i => by rw [upI_at, if_neg (by omega)]
          refine ⟨fun _ => wX12_readRule_81 (rb168 (by rw [u, u, u]; exact a3) cc.1 cc.2 ?_), fun y => absurd y (wr_ne a3 cc.1 cc.2)⟩
          exact MLB kk (by unfold lnMoves3; rw [if_neg z0', if_pos c1, if_pos c2, if_neg c3]) c3 (frQ_tr (frQ_tr q3 (frQ_M f4)) (frQ_tr (frQ_up (by omega)) (frQ_tr (frQ_up (by omega)) (frQ_up (by omega))))) (by rw [u, u, u]; exact a3) (by rw [u, u, u]; exact a4)
      · have cc := cl _ _ _ c2
        have u : ∀ (K : hI_) (j : Nat) (v : Int32) (i : Nat), (upI K 77 j v) 68 i = K 68 i := fun K j v i => by rw [upI_at, if_neg (by omega)]
        refine tX12_hereN a3 cc.1 cc.2 ⟨fun _ => wX12_readRule_81 (rb168 (by rw [u, u, u]; exact a3) cc.1 cc.2 ?_), fun y => absurd y (wr_ne a3 cc.1 cc.2)⟩
        exact MLB kk (by unfold lnMoves3; rw [if_neg z0', if_pos c1, if_neg c2]) c2 (frQ_tr (frQ_tr q2 (frQ_M f3)) (frQ_tr (frQ_up (by omega)) (frQ_tr (frQ_up (by omega)) (frQ_up (by omega))))) (by rw [u, u, u]; exact a3) (by rw [u, u, u]; exact a4)
    · have cc := cl _ _ _ c1
      have u : ∀ (K : hI_) (j : Nat) (v : Int32) (i : Nat), (upI K 77 j v) 68 i = K 68 i := fun K j v i => by rw [upI_at, if_neg (by omega)]
      refine tX12_numberN a3 cc.1 cc.2 (tX12_hereN a3 cc.1 cc.2 ⟨fun _ => wX12_readRule_81 (rb168 (by rw [u, u, u]; exact a3) cc.1 cc.2 ?_), fun y => absurd y (wr_ne a3 cc.1 cc.2)⟩)
      exact MLB kk (by unfold lnMoves3; rw [if_neg z0', if_neg c1]) c1 (frQ_tr (frQ_tr q1 (frQ_M f2)) (frQ_tr (frQ_up (by omega)) (frQ_tr (frQ_up (by omega)) (frQ_up (by omega))))) (by rw [u, u, u]; exact a3) (by rw [u, u, u]; exact a4)
  · exact told_b hT h4 (by omega) (by rw [t3]; exact decide_eq_true z0) (by unfold lnMoves3; rw [if_pos z0]) kk
theorem tX12_readMost {E : aE} {P : hI_ → hJ_ → Prop} {n : Nat} {B : Nat → Nat} {I : hI_} {J : hJ_} {k0 : Nat} {D : Nat → Nat} (h : MB n B I) (hk : k0 ≤ n) (hT : MT n B k0 I) (h4 : tK n B k0 ≠ 4) (hD : MD D I) (ok : DOK D) (kk : LMc n B I J (lnMost n B k0 (tE n B k0) D) P) : CallV E mX12_readRule [.ref 68, .int (nI 5)] SH I J P := by
  have o1 := ok.1
  have he := (tE_b (B := B) hk).2.1
  have he2 := (tE_b (B := B) he).2.1
  have hT0 := hT.1
  have hw := (hT.2.2.2 h4).1
  generalize hk1 : tE n B k0 = k1 at *
  obtain ⟨b1, b2, b3, b4, t3, t4, t5⟩ := hD
  have u : ∀ (K : hI_) (j : Nat) (v : Int32) (i : Nat), (upI K 77 j v) 68 i = K 68 i := fun K j v i => by rw [upI_at, if_neg (by omega)]
  by_cases z0 : D 10 = 0
  · refine told_g (by omega) (by rw [t5]; exact decide_eq_false (fun y => y z0)) ?_
    have z0' : ¬ ¬ D 10 = 0 := fun y => y z0
    refine wX12_readRule_17 ?_
    generalize hG : upI I 68 20 ((I 68 20) ||| ((1) <<< (nI 5 &&& 31))) = G
    have fG : frQ I G := by rw [← hG]; exact frQ_20
    have g3 : G 68 3 = 0 := by rw [← hG, upI_at, if_neg (by omega)]; exact hw
    have g5 : G 68 5 = nI k1 := by rw [← hG, upI_at, if_neg (by omega)]; exact hT0
    have gb : G 68 20 = (I 68 20) ||| ((1) <<< (nI 5 &&& 31)) := by rw [← hG]; exact upI_same
    refine tX12_nextY (MB_Q h fG) g3 g5 he (fun I1 f1 hT1 => ⟨fun _ => ⟨fun _ => ?_, fun y => absurd y (by decide)⟩, fun y => absurd y (by decide)⟩)
    have q1 := frQ_tr fG (frQ_M f1)
    refine tX12_hereY (lo := 1) (hx := 1000) hT1 rfl (by omega) (by omega) (fun c1 => ?_) (fun c1 I2 f2 a3 a4 => ?_)
    · have d1 := cN0.mp c1
      refine wX12_readRule_168 ?_
      generalize hF : upI I1 77 7 (nI (tV n B k1)) = F
      have fF : frQ I1 F := by rw [← hF]; exact frQ_up (by omega)
      have hTF : MT n B k1 F := by rw [← hF]; exact MT_up hT1 (by omega)
      have qF := frQ_tr q1 fF
      refine tX12_nextY (MB_Q h qF) (hTF.2.2.2 (by omega)).1 hTF.1 he2 (fun I5 f5 hT5 => ?_)
      refine MLG kk (by unfold lnMost; rw [if_neg z0', if_pos c1]) (frQ_tr qF (frQ_M f5)) hT5 (fun _ => MD_M ?_ f5)
      have Go : ∀ a, a ≠ 68 → a ≠ 77 → F a = I a := fun a ha w => by
        rw [← hF]; funext j
        rw [upI_at, if_neg (fun u => w u.1), f1.1 a ha, ← hG, upI_at, if_neg (fun u => ha u.1)]
      have g77 : ∀ j, j ≠ 7 → F 77 j = I 77 j := fun j x1 => by
        rw [← hF, upI_at, if_neg (fun u => x1 u.2), f1.1 77 (by omega), ← hG, upI_at, if_neg (by omega)]
      have g20 : F 68 20 = (I 68 20) ||| ((1) <<< (nI 5 &&& 31)) := by
        rw [← hF, upI_at, if_neg (by omega), f1.2 20 (by omega)]; exact gb
      refine ⟨fun j hj => ?_, fun i hi => ?_, fun q hq => ?_, fun j hj => ?_, ?_, ?_, ?_⟩
      · by_cases w : j = 7
        · rw [w, ← hF, upI_at, if_pos ⟨rfl, rfl⟩]; rfl
        · rw [g77 j w, upN_o (by omega), upN_o w]; exact b1 j hj
      · have hi : i < D 0 := hi
        rw [Go 78 (by omega) (by omega), upN_o (by omega), upN_o (by omega)]; exact b2 i hi
      · rw [Go 79 (by omega) (by omega), upN_o (by omega), upN_o (by omega)]; exact b3 q hq
      · have hj : j < 4 * D 2 := hj
        rw [Go 80 (by omega) (by omega), upN_o (by omega), upN_o (by omega)]; exact b4 j hj
      · rw [g20, tb_or (by omega) (by omega), t3]
        show (_ || false) = _
        rw [Bool.or_false]; rfl
      · rw [g20, tb_or (by omega) (by omega), t4]
        show (_ || false) = _
        rw [Bool.or_false]; rfl
      · rw [g20, tb_or (by omega) (by omega)]
        show (_ || true) = true
        rw [Bool.or_true]
    · have c3 := cN3 (n := n) (B := B) (k := k1) (lo := 1) (hx := 1000)
      refine rb168 (c := cN_ n B k1 1 1000) (by rw [u]; exact a3) (by omega) (by omega) ?_
      exact MLB kk (by unfold lnMost; rw [if_neg z0', if_neg c1]) c1 (frQ_tr (frQ_tr q1 (frQ_M f2)) (frQ_up (by omega))) (by rw [u]; exact a3) (by rw [u]; exact a4)
  · exact told_b hT h4 (by omega) (by rw [t5]; exact decide_eq_true z0) (by unfold lnMost; rw [if_pos z0]) kk
theorem nmE_6 {i : Nat} (h : i ≤ 9) : ((6 : Int32) ≤ nmE i) ↔ ¬ (i < 6 ∨ i = 9) := by
  unfold nmE
  by_cases z : i = 9
  · rw [if_pos z]; exact ⟨fun y => absurd y (by decide), fun y => by omega⟩
  · rw [if_neg z]
    have : ((6 : Int32) ≤ nI i) ↔ 6 ≤ i := nI_leJ (a := 6) (by omega) (by omega)
    rw [this]; omega
theorem tX12_readFirst {E : aE} {P : hI_ → hJ_ → Prop} {n : Nat} {B : Nat → Nat} {I : hI_} {J : hJ_} {k0 : Nat} {D : Nat → Nat} (h : MB n B I) (hC : RConst (I 70) (I 71) (I 72)) (hk : k0 ≤ n) (hT : MT n B k0 I) (h4 : tK n B k0 ≠ 4) (hD : MD D I) (ok : DOK D) (kk : LMc n B I J (lnFirst n B k0 (tE n B k0) D) P) : CallV E mX12_readRule [.ref 68, .int (nI 4)] SH I J P := by
  have o1 := ok.1
  have he := (tE_b (B := B) hk).2.1
  have he2 := (tE_b (B := B) he).2.1
  have hT0 := hT.1
  have hw := (hT.2.2.2 h4).1
  generalize hk1 : tE n B k0 = k1 at *
  obtain ⟨b1, b2, b3, b4, t3, t4, t5⟩ := hD
  have u : ∀ (K : hI_) (j : Nat) (v : Int32) (i : Nat), (upI K 77 j v) 68 i = K 68 i := fun K j v i => by rw [upI_at, if_neg (by omega)]
  have n9 := nmI_9 (n := n) (B := B) (k := k1)
  by_cases z0 : D 9 = 0
  · refine told_g (by omega) (by rw [t4]; exact decide_eq_false (fun y => y z0)) ?_
    have z0' : ¬ ¬ D 9 = 0 := fun y => y z0
    refine wX12_readRule_17 ?_
    generalize hG : upI I 68 20 ((I 68 20) ||| ((1) <<< (nI 4 &&& 31))) = G
    have fG : frQ I G := by rw [← hG]; exact frQ_20
    have g3 : G 68 3 = 0 := by rw [← hG, upI_at, if_neg (by omega)]; exact hw
    have g5 : G 68 5 = nI k1 := by rw [← hG, upI_at, if_neg (by omega)]; exact hT0
    have gb : G 68 20 = (I 68 20) ||| ((1) <<< (nI 4 &&& 31)) := by rw [← hG]; exact upI_same
    refine tX12_nextY (MB_Q h fG) g3 g5 he (fun I1 f1 hT1 => ⟨fun _ => ⟨fun y => absurd rfl y, fun _ => ?_⟩, fun y => absurd y (by decide)⟩)
    have q1 := frQ_tr fG (frQ_M f1)
    by_cases t : tK n B k1 = 4
    · obtain ⟨a3, a4⟩ := hT1.2.2.1 t
      have a3 : I1 68 3 = nI 1 := a3
      refine ⟨fun _ => wX12_readRule_139 (rb168 (c := 1) (by rw [u]; exact a3) (by omega) (by omega) ?_), fun y => absurd y (wr_ne a3 (by omega) (by omega))⟩
      exact MLB kk (by unfold lnFirst; rw [if_neg z0', if_pos t]) (by omega) (frQ_tr q1 (frQ_up (by omega))) (by rw [u]; exact a3) (by rw [u]; exact a4)
    · have w1 := (hT1.2.2.2 t).1
      refine ⟨fun y => absurd w1 y, fun _ => ?_⟩
      have hC1 : RConst (I1 70) (I1 71) (I1 72) := by rw [q1.1 70 (by omega), q1.1 71 (by omega), q1.1 72 (by omega)]; exact hC
      refine tX12_nameHere (MB_Q h q1) he hT1 t hC1 ⟨fun y => ?_, fun y => ?_⟩
      · have y := (nmE_6 n9).mp y
        have en : nmE (nmI n B k1) = nI (nmI n B k1) := by unfold nmE; rw [if_neg (by omega)]
        refine wX12_readRule_139 (wX12_readRule_168 ?_)
        rw [en, show (6 : Int32) = nI 6 from rfl, nI_sub (by omega)]
        generalize hF : upI I1 77 6 (nI (nmI n B k1 - 6)) = F
        have fF : frQ I1 F := by rw [← hF]; exact frQ_up (by omega)
        have hTF : MT n B k1 F := by rw [← hF]; exact MT_up hT1 (by omega)
        have qF := frQ_tr q1 fF
        refine tX12_nextY (MB_Q h qF) (hTF.2.2.2 t).1 hTF.1 he2 (fun I5 f5 hT5 => ?_)
        refine MLG kk (by unfold lnFirst; rw [if_neg z0', if_neg t, if_neg y]) (frQ_tr qF (frQ_M f5)) hT5 (fun _ => MD_M ?_ f5)
        have Go : ∀ a, a ≠ 68 → a ≠ 77 → F a = I a := fun a ha w => by
          rw [← hF]; funext j
          rw [upI_at, if_neg (fun u => w u.1), f1.1 a ha, ← hG, upI_at, if_neg (fun u => ha u.1)]
        have g77 : ∀ j, j ≠ 6 → F 77 j = I 77 j := fun j x1 => by
          rw [← hF, upI_at, if_neg (fun u => x1 u.2), f1.1 77 (by omega), ← hG, upI_at, if_neg (by omega)]
        have g20 : F 68 20 = (I 68 20) ||| ((1) <<< (nI 4 &&& 31)) := by
          rw [← hF, upI_at, if_neg (by omega), f1.2 20 (by omega)]; exact gb
        refine ⟨fun j hj => ?_, fun i hi => ?_, fun q hq => ?_, fun j hj => ?_, ?_, ?_, ?_⟩
        · by_cases w : j = 6
          · rw [w, ← hF, upI_at, if_pos ⟨rfl, rfl⟩]; rfl
          · rw [g77 j w, upN_o (by omega), upN_o w]; exact b1 j hj
        · have hi : i < D 0 := hi
          rw [Go 78 (by omega) (by omega), upN_o (by omega), upN_o (by omega)]; exact b2 i hi
        · rw [Go 79 (by omega) (by omega), upN_o (by omega), upN_o (by omega)]; exact b3 q hq
        · have hj : j < 4 * D 2 := hj
          rw [Go 80 (by omega) (by omega), upN_o (by omega), upN_o (by omega)]; exact b4 j hj
        · rw [g20, tb_or (by omega) (by omega), t3]
          show (_ || false) = _
          rw [Bool.or_false]; rfl
        · rw [g20, tb_or (by omega) (by omega)]
          show (_ || true) = true
          rw [Bool.or_true]
        · rw [g20, tb_or (by omega) (by omega), t5]
          show (_ || false) = _
          rw [Bool.or_false]; rfl
      · have y : nmI n B k1 < 6 ∨ nmI n B k1 = 9 := by
          by_cases w : nmI n B k1 < 6 ∨ nmI n B k1 = 9
          · exact w
          · exact absurd ((nmE_6 n9).mpr w) y
        have ff := mfail_st (c := 2) q1 hT1
        refine tX12_failsY w1 (wX12_readRule_139 (rb168 (c := 2) (by rw [u]; exact ff.2.1) (by omega) (by omega) ?_))
        exact MLB kk (by unfold lnFirst; rw [if_neg z0', if_neg t, if_pos y]) (by omega) (frQ_tr ff.1 (frQ_up (by omega))) (by rw [u]; exact ff.2.1) (by rw [u]; exact ff.2.2)
  · exact told_b hT h4 (by omega) (by rw [t4]; exact decide_eq_true z0) (by unfold lnFirst; rw [if_pos z0]) kk
