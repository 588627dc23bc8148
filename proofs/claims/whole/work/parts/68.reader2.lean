set_option maxHeartbeats 4000000 in
set_option maxRecDepth 20000 in
theorem wX3_allMovesD {E : aE} {P : Int32 → hI_ → hJ_ → Prop} {I : hI_} {J : hJ_}  (k : P (((I 16 0) + (I 16 1)) + (I 16 2)) I J) : CallI E mX3_allMoves [.ref 10] SH I J P := by
  refine Call_of (L := [.ref 10]) ok_X3_allMoves.1 rfl rfl ?_
  refine V_aload_n dX3_allMoves_0 rfl ?_
  refine U_getR dX3_allMoves_1 fl_X3_27 s_10 rfl ?_
  refine V_iconst (v := (0 : Int32)) dX3_allMoves_4 rfl ?_
  refine U_ialdx (x := I 16 0) dX3_allMoves_5 s_16 (by unfold vp_in; decide) rfl ?_
  refine V_aload_n dX3_allMoves_6 rfl ?_
  refine U_getR dX3_allMoves_7 fl_X3_27 s_10 rfl ?_
  refine V_iconst (v := (1 : Int32)) dX3_allMoves_10 rfl ?_
  refine U_ialdx (x := I 16 1) dX3_allMoves_11 s_16 (by unfold vp_in; decide) rfl ?_
  refine V_iadd dX3_allMoves_12 ?_
  refine V_aload_n dX3_allMoves_13 rfl ?_
  refine U_getR dX3_allMoves_14 fl_X3_27 s_10 rfl ?_
  refine V_iconst (v := (2 : Int32)) dX3_allMoves_17 rfl ?_
  refine U_ialdx (x := I 16 2) dX3_allMoves_18 s_16 (by unfold vp_in; decide) rfl ?_
  refine V_iadd dX3_allMoves_19 ?_
  exact V_iret dX3_allMoves_20 ⟨_, rfl, rfl⟩ rfl rfl ⟨_, _, _, rfl, rfl, k⟩
theorem tX3_allMoves10 {E : aE} {P : Int32 → hI_ → hJ_ → Prop} {I : hI_} {J : hJ_} (k : P (I 16 0 + I 16 1 + I 16 2) I J) : CallI E mX3_allMoves [.ref 10] SH I J P := wX3_allMovesD k
set_option maxHeartbeats 4000000 in
set_option maxRecDepth 20000 in
theorem wX4_takeShut {E : aE} {P : Int32 → hI_ → hJ_ → Prop} {I : hI_} {J : hJ_}  (k : (((I 10 8) < (12 : Int32) → CallI E mX4_takeNumber [.ref 17, .int (0 : Int32), .int ((I 10 6) - (1 : Int32))] SH I J (fun x2 I3 J4 => ((¬ x2 = (0 : Int32) → CallI E mX4_takeNumber [.ref 17, .int (0 : Int32), .int ((I3 10 6) - (1 : Int32))] SH I3 J4 (fun x6 I7 J8 => ((¬ x6 = (0 : Int32) → (vp_in (pr (I3 1 5) (I7 1 5)) 25) ∧ ((¬ (I7 12 (pr (I3 1 5) (I7 1 5)).toNatClampNeg) = (0 : Int32) → CallI E mX4_takeNumber [.ref 17, .int (0 : Int32), .int (999 : Int32)] SH I7 J8 (fun x12 I13 J14 => ((¬ x12 = (0 : Int32) → CallI E mX4_takeNumber [.ref 17, .int (I13 1 5), .int (999 : Int32)] SH I13 J14 (fun x16 I17 J18 => ((¬ x16 = (0 : Int32) → (vp_in (I17 10 8) 12) ∧ (vp_in (I17 10 8) 12) ∧ (vp_in (I17 10 8) 12) ∧ P (1 : Int32) (upI (upI (upI (upI I17 13 ((I17 10 8).toNatClampNeg) (pr (I3 1 5) (I7 1 5))) 14 ((I17 10 8).toNatClampNeg) (I13 1 5)) 15 ((I17 10 8).toNatClampNeg) (I17 1 5)) 10 8 ((I17 10 8) + (1 : Int32))) J18) ∧ (x16 = (0 : Int32) → P (0 : Int32) I17 J18)))) ∧ (x12 = (0 : Int32) → P (0 : Int32) I13 J14)))) ∧ ((I7 12 (pr (I3 1 5) (I7 1 5)).toNatClampNeg) = (0 : Int32) → CallI E mX4_fail [.ref 17, .int (3 : Int32)] SH I7 J8 (fun x23 I24 J25 => (x23 = 0 ∨ x23 = 1) ∧ P x23 I24 J25)))) ∧ (x6 = (0 : Int32) → P (0 : Int32) I7 J8)))) ∧ (x2 = (0 : Int32) → P (0 : Int32) I3 J4)))) ∧ (¬ ((I 10 8) < (12 : Int32)) → CallI E mX4_fail [.ref 17, .int (5 : Int32)] SH I J (fun x27 I28 J29 => (x27 = 0 ∨ x27 = 1) ∧ P x27 I28 J29)))) : CallI E mX4_takeShut [.ref 17] SH I J P := by
  refine Call_of (L := [.ref 17, .retAddr 0, .retAddr 0, .retAddr 0]) ok_X4_takeShut.1 rfl rfl ?_
  refine V_aload_n dX4_takeShut_0 rfl ?_
  refine U_getR dX4_takeShut_1 fl_X4_15 s_17 rfl ?_
  refine U_getI dX4_takeShut_4 fl_X4_124 s_10 rfl ?_
  refine V_bipush (v := (12 : Int32)) dX4_takeShut_7 rfl ?_
  refine V_icmp_lt dX4_takeShut_9 (fun c1 => ?_) (fun c1 => ?_)
  · have k := k.1 c1
    refine V_aload_n dX4_takeShut_18 rfl ?_
    refine V_iconst (v := (0 : Int32)) dX4_takeShut_19 rfl ?_
    refine V_aload_n dX4_takeShut_20 rfl ?_
    refine U_getR dX4_takeShut_21 fl_X4_15 s_17 rfl ?_
    refine U_getI dX4_takeShut_24 fl_X4_103 s_10 rfl ?_
    refine V_iconst (v := (1 : Int32)) dX4_takeShut_27 rfl ?_
    refine V_isub dX4_takeShut_28 ?_
    refine U_callV1 [.int (0 : Int32), .int ((I 10 6) - (1 : Int32))] dX4_takeShut_29 ov_X4_106 s_17 rfl ⟨rfl, rfl, rfl⟩ rfl rfl rfl (CallI_mono k (fun x2 I3 J4 k => ?_))
    refine V_if_ne dX4_takeShut_32 (fun c5 => ?_) (fun c5 => ?_)
    · have k := k.1 c5
      refine V_aload_n dX4_takeShut_37 rfl ?_
      refine U_getR dX4_takeShut_38 fl_X4_9 s_17 rfl ?_
      refine U_getI dX4_takeShut_41 fl_X4_66 s_1 rfl ?_
      refine U_istore_n (L2 := [.ref 17, .int (I3 1 5), .retAddr 0, .retAddr 0]) dX4_takeShut_44 (by decide) rfl ?_
      refine V_aload_n dX4_takeShut_45 rfl ?_
      refine V_iconst (v := (0 : Int32)) dX4_takeShut_46 rfl ?_
      refine V_aload_n dX4_takeShut_47 rfl ?_
      refine U_getR dX4_takeShut_48 fl_X4_15 s_17 rfl ?_
      refine U_getI dX4_takeShut_51 fl_X4_103 s_10 rfl ?_
      refine V_iconst (v := (1 : Int32)) dX4_takeShut_54 rfl ?_
      refine V_isub dX4_takeShut_55 ?_
      refine U_callV1 [.int (0 : Int32), .int ((I3 10 6) - (1 : Int32))] dX4_takeShut_56 ov_X4_106 s_17 rfl ⟨rfl, rfl, rfl⟩ rfl rfl rfl (CallI_mono k (fun x6 I7 J8 k => ?_))
      refine V_if_ne dX4_takeShut_59 (fun c9 => ?_) (fun c9 => ?_)
      · have k := k.1 c9
        refine V_iload_n dX4_takeShut_64 rfl ?_
        refine V_aload_n dX4_takeShut_65 rfl ?_
        refine U_getR dX4_takeShut_66 fl_X4_9 s_17 rfl ?_
        refine U_getI dX4_takeShut_69 fl_X4_66 s_1 rfl ?_
        refine U_callS1 [.int (I3 1 5), .int (I7 1 5)] dX4_takeShut_72 os_X4_114 ⟨rfl, rfl, rfl⟩ rfl rfl rfl (tX3_pair ?_)
        refine U_istore_n (L2 := [.ref 17, .int (I3 1 5), .int (pr (I3 1 5) (I7 1 5)), .retAddr 0]) dX4_takeShut_75 (by decide) rfl ?_
        refine V_aload_n dX4_takeShut_76 rfl ?_
        refine U_getR dX4_takeShut_77 fl_X4_15 s_17 rfl ?_
        refine U_getR dX4_takeShut_80 fl_X4_118 s_10 rfl ?_
        refine V_iload_n dX4_takeShut_83 rfl ?_
        obtain ⟨hb10, k⟩ := k
        refine U_iald dX4_takeShut_84 s_12 hb10 ?_
        refine V_if_ne dX4_takeShut_85 (fun c11 => ?_) (fun c11 => ?_)
        · have k := k.1 c11
          refine V_aload_n dX4_takeShut_94 rfl ?_
          refine V_iconst (v := (0 : Int32)) dX4_takeShut_95 rfl ?_
          refine V_sipush (v := (999 : Int32)) dX4_takeShut_96 rfl ?_
          refine U_callV1 [.int (0 : Int32), .int (999 : Int32)] dX4_takeShut_99 ov_X4_106 s_17 rfl ⟨rfl, rfl, rfl⟩ rfl rfl rfl (CallI_mono k (fun x12 I13 J14 k => ?_))
          refine V_if_ne dX4_takeShut_102 (fun c15 => ?_) (fun c15 => ?_)
          · have k := k.1 c15
            refine V_aload_n dX4_takeShut_107 rfl ?_
            refine U_getR dX4_takeShut_108 fl_X4_9 s_17 rfl ?_
            refine U_getI dX4_takeShut_111 fl_X4_66 s_1 rfl ?_
            refine U_istore_n (L2 := [.ref 17, .int (I3 1 5), .int (pr (I3 1 5) (I7 1 5)), .int (I13 1 5)]) dX4_takeShut_114 (by decide) rfl ?_
            refine V_aload_n dX4_takeShut_115 rfl ?_
            refine V_iload_n dX4_takeShut_116 rfl ?_
            refine V_sipush (v := (999 : Int32)) dX4_takeShut_117 rfl ?_
            refine U_callV1 [.int (I13 1 5), .int (999 : Int32)] dX4_takeShut_120 ov_X4_106 s_17 rfl ⟨rfl, rfl, rfl⟩ rfl rfl rfl (CallI_mono k (fun x16 I17 J18 k => ?_))
            refine V_if_ne dX4_takeShut_123 (fun c19 => ?_) (fun c19 => ?_)
            · have k := k.1 c19
              refine V_aload_n dX4_takeShut_128 rfl ?_
              refine U_getR dX4_takeShut_129 fl_X4_15 s_17 rfl ?_
              refine U_getR dX4_takeShut_132 fl_X4_127 s_10 rfl ?_
              refine V_aload_n dX4_takeShut_135 rfl ?_
              refine U_getR dX4_takeShut_136 fl_X4_15 s_17 rfl ?_
              refine U_getI dX4_takeShut_139 fl_X4_124 s_10 rfl ?_
              refine V_iload_n dX4_takeShut_142 rfl ?_
              obtain ⟨hb20, k⟩ := k
              refine U_iast dX4_takeShut_143 s_13 hb20 ?_
              refine V_aload_n dX4_takeShut_144 rfl ?_
              refine U_getR dX4_takeShut_145 fl_X4_15 s_17 rfl ?_
              refine U_getR dX4_takeShut_148 fl_X4_130 s_10 rfl ?_
              refine V_aload_n dX4_takeShut_151 rfl ?_
              refine U_getR dX4_takeShut_152 fl_X4_15 s_17 rfl ?_
              refine U_getIx (x := I17 10 8) dX4_takeShut_155 fl_X4_124 s_10 rfl rfl ?_
              refine V_iload_n dX4_takeShut_158 rfl ?_
              obtain ⟨hb21, k⟩ := k
              refine U_iast dX4_takeShut_159 s_14 hb21 ?_
              refine V_aload_n dX4_takeShut_160 rfl ?_
              refine U_getR dX4_takeShut_161 fl_X4_15 s_17 rfl ?_
              refine U_getR dX4_takeShut_164 fl_X4_133 s_10 rfl ?_
              refine V_aload_n dX4_takeShut_167 rfl ?_
              refine U_getR dX4_takeShut_168 fl_X4_15 s_17 rfl ?_
              refine U_getIx (x := I17 10 8) dX4_takeShut_171 fl_X4_124 s_10 rfl rfl ?_
              refine V_aload_n dX4_takeShut_174 rfl ?_
              refine U_getR dX4_takeShut_175 fl_X4_9 s_17 rfl ?_
              refine U_getIx (x := I17 1 5) dX4_takeShut_178 fl_X4_66 s_1 rfl rfl ?_
              obtain ⟨hb22, k⟩ := k
              refine U_iast dX4_takeShut_181 s_15 hb22 ?_
              refine V_aload_n dX4_takeShut_182 rfl ?_
              refine U_getR dX4_takeShut_183 fl_X4_15 s_17 rfl ?_
              refine V_dupR dX4_takeShut_186 ?_
              refine U_getIx (x := I17 10 8) dX4_takeShut_187 fl_X4_124 s_10 rfl rfl ?_
              refine V_iconst (v := (1 : Int32)) dX4_takeShut_190 rfl ?_
              refine V_iadd dX4_takeShut_191 ?_
              refine U_putI dX4_takeShut_192 fp_X4_124 s_10 rfl ?_
              refine V_iconst (v := (1 : Int32)) dX4_takeShut_195 rfl ?_
              exact V_iret dX4_takeShut_196 ⟨_, rfl, rfl⟩ rfl rfl ⟨_, _, _, rfl, rfl, k⟩
            · have k := k.2 c19
              refine V_iconst (v := (0 : Int32)) dX4_takeShut_126 rfl ?_
              exact V_iret dX4_takeShut_127 ⟨_, rfl, rfl⟩ rfl rfl ⟨_, _, _, rfl, rfl, k⟩
          · have k := k.2 c15
            refine V_iconst (v := (0 : Int32)) dX4_takeShut_105 rfl ?_
            exact V_iret dX4_takeShut_106 ⟨_, rfl, rfl⟩ rfl rfl ⟨_, _, _, rfl, rfl, k⟩
        · have k := k.2 c11
          refine V_aload_n dX4_takeShut_88 rfl ?_
          refine V_iconst (v := (3 : Int32)) dX4_takeShut_89 rfl ?_
          refine U_callV1 [.int (3 : Int32)] dX4_takeShut_90 ov_X4_63 s_17 rfl ⟨rfl, rfl, rfl⟩ rfl rfl rfl (CallI_mono k (fun x23 I24 J25 k => ?_))
          obtain ⟨hz26, k⟩ := k
          exact V_iret dX4_takeShut_93 ⟨_, rfl, z_nar hz26⟩ rfl rfl ⟨_, _, _, rfl, rfl, k⟩
      · have k := k.2 c9
        refine V_iconst (v := (0 : Int32)) dX4_takeShut_62 rfl ?_
        exact V_iret dX4_takeShut_63 ⟨_, rfl, rfl⟩ rfl rfl ⟨_, _, _, rfl, rfl, k⟩
    · have k := k.2 c5
      refine V_iconst (v := (0 : Int32)) dX4_takeShut_35 rfl ?_
      exact V_iret dX4_takeShut_36 ⟨_, rfl, rfl⟩ rfl rfl ⟨_, _, _, rfl, rfl, k⟩
  · have k := k.2 c1
    refine V_aload_n dX4_takeShut_12 rfl ?_
    refine V_iconst (v := (5 : Int32)) dX4_takeShut_13 rfl ?_
    refine U_callV1 [.int (5 : Int32)] dX4_takeShut_14 ov_X4_63 s_17 rfl ⟨rfl, rfl, rfl⟩ rfl rfl rfl (CallI_mono k (fun x27 I28 J29 k => ?_))
    obtain ⟨hz30, k⟩ := k
    exact V_iret dX4_takeShut_17 ⟨_, rfl, z_nar hz30⟩ rfl rfl ⟨_, _, _, rfl, rfl, k⟩
theorem tX4_takeShut {E : aE} {P : Int32 → hI_ → hJ_ → Prop} {n : Nat} {B : Nat → Nat} {I : hI_} {J : hJ_} {k0 : Nat} {D : Nat → Nat} (h : XB n B I) (hk : k0 ≤ n) (hT : XT n B k0 I) (hD : XD D I) (ok : DOK D) (kk : LXc I J (lnShut n B k0 (tE n B k0) D) P) : CallI E mX4_takeShut [.ref 17] SH I J P := by
  have o1 := ok.1
  have he := (tE_b (B := B) hk).2.1
  have he2 := (tE_b (B := B) he).2.1
  have he3 := (tE_b (B := B) he2).2.1
  have he4 := (tE_b (B := B) he3).2.1
  unfold lnShut at kk
  have hT0 := hT.1
  generalize hk1 : tE n B k0 = k1 at *
  generalize hk2 : tE n B k1 = k2 at *
  generalize hk3 : tE n B k2 = k3 at *
  generalize hk4 : tE n B k3 = k4 at *
  refine wX4_takeShut ?_
  rw [hD.1.1, hD.1.2.2.1]
  have l12 : (nI (D 2) < 12) ↔ D 2 < 12 := nI_ltJ (b := 12) (by omega) (by omega)
  rw [l12]
  refine ⟨fun z0 => ?_, fun z0 => ?_⟩
  · have z0 : ¬ 12 ≤ D 2 := by omega
    refine tX4_takeNumber (lo := 0) (hx := D 0) h hT0 he rfl (by omega) (by omega) (fun c1 I2 q1 q2 hT2 => ⟨fun _ => ?_, fun y => absurd y (by decide)⟩) (fun c1 I2 q1 q2 q3 q4 => ⟨fun y => absurd rfl y, fun _ => LB kk (by unfold lnShut4; rw [if_neg z0, if_neg c1]) c1 (frX_17 q1 q2) q3 q4⟩)
    have hD2 := XD_1 hD q1
    rw [hD2.1.1]
    refine tX4_takeNumber (lo := 0) (hx := D 0) (XB_fr h (frX_1 q1 q2)) (by rw [hT2.1, hk2]) he2 rfl (by omega) (by omega) (fun c2 I3 r1 r2 hT3 => ⟨fun _ => ?_, fun y => absurd y (by decide)⟩) (fun c2 I3 r1 r2 r3 r4 => ⟨fun y => absurd rfl y, fun _ => LB kk (by unfold lnShut4; rw [if_neg z0, if_pos c1, if_neg c2]) c2 (frX_tr (frX_1 q1 q2) (frX_17 r1 r2)) r3 r4⟩)
    have hD3 := XD_1 hD2 r1
    have d1 := cN0.mp c1
    have d2 := cN0.mp c2
    have va : tV n B k1 < 5 := by omega
    have vb : tV n B k2 < 5 := by omega
    have fr3 := frX_tr (frX_1 q1 q2) (frX_1 r1 r2)
    have wab := ok.2.2.2.1 _ _ va vb
    rw [hT2.2.2.2, hT3.2.2.2, pr_nI va vb, nI_clamp (by have := prN_25 va vb; omega), hD3.2.2.2.2.1 _ _ va vb]
    have vp : vp_in (nI (prN (tV n B k1) (tV n B k2))) 25 := vp_in_nI (prN_25 va vb) (by omega)
    have e0 : (nI (D (40 + 5 * tV n B k1 + tV n B k2)) = 0) ↔ D (40 + 5 * tV n B k1 + tV n B k2) = 0 := nI_eqI (b := 0) (by omega) (by omega)
    refine ⟨vp, fun y => ?_, fun y => ?_⟩
    · have y : ¬ D (40 + 5 * tV n B k1 + tV n B k2) = 0 := fun w => y (e0.mpr w)
      refine tX4_takeNumber (lo := 0) (hx := 1000) (XB_fr h fr3) (by rw [hT3.1, hk3]) he3 rfl (by omega) (by omega) (fun c3 I4 s1 s2 hT4 => ⟨fun _ => ?_, fun y => absurd y (by decide)⟩) (fun c3 I4 s1 s2 s3 s4 => ⟨fun y => absurd rfl y, fun _ => LB kk (by unfold lnShut4; rw [if_neg z0, if_pos c1, if_pos c2, if_neg y, if_neg c3]) c3 (frX_tr fr3 (frX_17 s1 s2)) s3 s4⟩)
      have hD4 := XD_1 hD3 s1
      have fr4 := frX_tr fr3 (frX_1 s1 s2)
      have d3 := cN0.mp c3
      rw [hT4.2.2.2]
      refine tX4_takeNumber (lo := tV n B k3) (hx := 1000) (XB_fr h fr4) (by rw [hT4.1, hk4]) he4 rfl (by omega) (by omega) (fun c4 I5 t1 t2 hT5 => ⟨fun _ => ?_, fun y => absurd y (by decide)⟩) (fun c4 I5 t1 t2 t3 t4 => ⟨fun y => absurd rfl y, fun _ => LB kk (by unfold lnShut4; rw [if_neg z0, if_pos c1, if_pos c2, if_neg y, if_pos c3, if_neg c4]) c4 (frX_tr fr4 (frX_17 t1 t2)) t3 t4⟩)
      have hD5 := XD_1 hD4 t1
      have fr5 := frX_tr fr4 (frX_1 t1 t2)
      have v12 : vp_in (nI (D 2)) 12 := vp_in_nI (by omega) (by omega)
      rw [hD5.1.2.2.1, hT5.2.2.2, nI_clamp (n := D 2) (by omega), nI_1]
      refine ⟨v12, v12, v12, LG kk (by unfold lnShut4; rw [if_neg z0, if_pos c1, if_pos c2, if_neg y, if_pos c3, if_pos c4]) (frX_tr fr5 (frX_tr (frX_up (by omega)) (frX_tr (frX_up (by omega)) (frX_tr (frX_up (by omega)) (frX_up (by omega)))))) ?_ ?_⟩
      · rw [upI_at, if_neg (by omega), upI_at, if_neg (by omega), upI_at, if_neg (by omega), upI_at, if_neg (by omega)]; exact hT5.1
      · obtain ⟨⟨a1, a2, a3, a4, a5⟩, b1, cc1, dd1, e1, f1⟩ := hD5
        unfold dShut
        generalize tV n B k1 = a at *
        generalize tV n B k2 = b at *
        generalize tV n B k3 = f at *
        generalize tV n B k4 = t at *
        generalize hF : upI (upI (upI (upI I5 13 (D 2) (nI (prN a b))) 14 (D 2) (nI f)) 15 (D 2) (nI t)) 10 8 (nI (D 2 + 1)) = F
        generalize hG : upN (upN (upN (upN (upN D (100 + 4 * D 2) a) (101 + 4 * D 2) b) (102 + 4 * D 2) f) (103 + 4 * D 2) t) 2 (D 2 + 1) = G
        have Fo : ∀ x, x ≠ 10 → (x < 13 ∨ 16 ≤ x) → F x = I5 x := fun x x1 x2 => by funext j; rw [← hF, upI_at, if_neg (fun z => x1 z.1), upI_at, if_neg (by omega), upI_at, if_neg (by omega), upI_at, if_neg (by omega)]
        have F10 : ∀ j, j ≠ 8 → F 10 j = I5 10 j := fun j hj => by rw [← hF, upI_at, if_neg (fun z => hj z.2), upI_at, if_neg (by omega), upI_at, if_neg (by omega), upI_at, if_neg (by omega)]
        have o : ∀ j, j ≠ 2 → j < 100 + 4 * D 2 → G j = D j := fun j h1 h2 => by rw [← hG, upN_o h1, upN_o (by omega), upN_o (by omega), upN_o (by omega), upN_o (by omega)]
        have f2 : G 2 = D 2 + 1 := by rw [← hG]; exact upN_e
        have g0 : G (100 + 4 * D 2) = a := by rw [← hG, upN_o (by omega), upN_o (by omega), upN_o (by omega), upN_o (by omega), upN_e]
        have g1 : G (101 + 4 * D 2) = b := by rw [← hG, upN_o (by omega), upN_o (by omega), upN_o (by omega), upN_e]
        have g2 : G (102 + 4 * D 2) = f := by rw [← hG, upN_o (by omega), upN_o (by omega), upN_e]
        have g3 : G (103 + 4 * D 2) = t := by rw [← hG, upN_o (by omega), upN_e]
        refine ⟨⟨?_, ?_, ?_, ?_, ?_⟩, ?_, ?_, fun i hi => ?_, fun x y hx hy => ?_, fun s hs => ?_⟩
        · rw [o 0 (by omega) (by omega), F10 6 (by omega)]; exact a1
        · rw [o 1 (by omega) (by omega), F10 7 (by omega)]; exact a2
        · rw [f2, ← hF]; exact upI_same
        · rw [o 6 (by omega) (by omega), F10 9 (by omega)]; exact a4
        · rw [o 7 (by omega) (by omega), F10 10 (by omega)]; exact a5
        · rw [o 8 (by omega) (by omega), o 9 (by omega) (by omega), o 10 (by omega) (by omega), Fo 17 (by omega) (by omega)]; exact b1
        · rw [o 3 (by omega) (by omega), o 4 (by omega) (by omega), o 5 (by omega) (by omega), Fo 16 (by omega) (by omega)]; exact cc1
        · rw [o 0 (by omega) (by omega)] at hi
          rw [o _ (by omega) (by omega), Fo 11 (by omega) (by omega)]; exact dd1 i hi
        · rw [o _ (by omega) (by omega), Fo 12 (by omega) (by omega)]; exact e1 x y hx hy
        · rw [f2] at hs
          by_cases e : s = D 2
          · rw [e, g0, g1, g2, g3, ← hF]
            refine ⟨?_, ?_, ?_⟩
            · rw [upI_at, if_neg (by omega), upI_at, if_neg (by omega), upI_at, if_neg (by omega)]; exact upI_same
            · rw [upI_at, if_neg (by omega), upI_at, if_neg (by omega)]; exact upI_same
            · rw [upI_at, if_neg (by omega)]; exact upI_same
          · rw [o _ (by omega) (by omega), o _ (by omega) (by omega), o _ (by omega) (by omega), o _ (by omega) (by omega)]
            have := f1 s (by omega)
            refine ⟨?_, ?_, ?_⟩
            · rw [← hF, upI_at, if_neg (by omega), upI_at, if_neg (by omega), upI_at, if_neg (by omega), upI_at, if_neg (fun z => e z.2)]; exact this.1
            · rw [← hF, upI_at, if_neg (by omega), upI_at, if_neg (by omega), upI_at, if_neg (fun z => e z.2), upI_at, if_neg (by omega)]; exact this.2.1
            · rw [← hF, upI_at, if_neg (by omega), upI_at, if_neg (fun z => e z.2), upI_at, if_neg (by omega), upI_at, if_neg (by omega)]; exact this.2.2
    · have y := e0.mp y
      have f := fail_st (c := 3) fr3 hT3
      exact wX4_fail ⟨Or.inl rfl, LB kk (by unfold lnShut4; rw [if_neg z0, if_pos c1, if_pos c2, if_pos y]) (by omega) f.1 f.2.1 f.2.2⟩
  · have f := fail_st (c := 5) (frX_rf (I := I)) hT
    exact wX4_fail ⟨Or.inl rfl, LB kk (by unfold lnShut4; rw [if_pos (by omega)]) (by omega) f.1 f.2.1 f.2.2⟩
theorem XB_up {n : Nat} {B : Nat → Nat} {I : hI_} (h : XB n B I) {a i : Nat} {v : Int32} (ha : 10 ≤ a ∧ a < 18) : XB n B (upI I a i v) := XB_fr h (frX_up ha)
theorem XT_up {n : Nat} {B : Nat → Nat} {k : Nat} {I : hI_} (h : XT n B k I) {a i : Nat} {v : Int32} (ha : 10 ≤ a ∧ a < 18) : XT n B k (upI I a i v) := by
  have e : ∀ j, (upI I a i v) 1 j = I 1 j := fun j => by rw [upI_at, if_neg (by omega)]
  unfold XT at h ⊢
  rw [e, e, e, e]; exact h
def HX4_takeMoves_20 (E : aE) (P : Int32 → hI_ → hJ_ → Prop) (v1 : Int32) (I : hI_) (J : hJ_) : Prop := V E mX4_takeMoves (kI SH P) 20 [.ref 17, .int v1] [] (SH, I, J) (0, 0)
set_option maxHeartbeats 4000000 in
set_option maxRecDepth 20000 in
theorem wX4_takeMoves {E : aE} {P : Int32 → hI_ → hJ_ → Prop} {I : hI_} {J : hJ_}  (k : (((I 17 4) = (0 : Int32) → HX4_takeMoves_20 E P (0 : Int32) (upI I 17 4 (1 : Int32)) J) ∧ (¬ ((I 17 4) = (0 : Int32)) → CallI E mX4_fail [.ref 17, .int (4 : Int32)] SH I J (fun x2 I3 J4 => (x2 = 0 ∨ x2 = 1) ∧ P x2 I3 J4)))) : CallI E mX4_takeMoves [.ref 17] SH I J P := by
  refine Call_of (L := [.ref 17, .retAddr 0]) ok_X4_takeMoves.1 rfl rfl ?_
  refine V_aload_n dX4_takeMoves_0 rfl ?_
  refine U_getI dX4_takeMoves_1 fl_X4_36 s_17 rfl ?_
  refine V_if_eq dX4_takeMoves_4 (fun c1 => ?_) (fun c1 => ?_)
  · have k := k.1 c1
    refine V_aload_n dX4_takeMoves_13 rfl ?_
    refine V_iconst (v := (1 : Int32)) dX4_takeMoves_14 rfl ?_
    refine U_putZ dX4_takeMoves_15 fp_X4_36 (by decide) s_17 rfl ?_
    refine V_iconst (v := (0 : Int32)) dX4_takeMoves_18 rfl ?_
    refine U_istore_n (L2 := [.ref 17, .int (0 : Int32)]) dX4_takeMoves_19 (by decide) rfl ?_
    exact k
  · have k := k.2 c1
    refine V_aload_n dX4_takeMoves_7 rfl ?_
    refine V_iconst (v := (4 : Int32)) dX4_takeMoves_8 rfl ?_
    refine U_callV1 [.int (4 : Int32)] dX4_takeMoves_9 ov_X4_63 s_17 rfl ⟨rfl, rfl, rfl⟩ rfl rfl rfl (CallI_mono k (fun x2 I3 J4 k => ?_))
    obtain ⟨hz5, k⟩ := k
    exact V_iret dX4_takeMoves_12 ⟨_, rfl, z_nar hz5⟩ rfl rfl ⟨_, _, _, rfl, rfl, k⟩
set_option maxHeartbeats 4000000 in
set_option maxRecDepth 20000 in
theorem wX4_takeMoves_20 {E : aE} {P : Int32 → hI_ → hJ_ → Prop} {I : hI_} {J : hJ_} {v1 : Int32} (k : (((3 : Int32) ≤ v1 → (((0 : Int32) < (I 16 0 + I 16 1 + I 16 2) → P (1 : Int32) I J) ∧ (¬ ((0 : Int32) < (I 16 0 + I 16 1 + I 16 2)) → CallI E mX4_fail [.ref 17, .int (3 : Int32)] SH I J (fun x3 I4 J5 => P (b2i (¬ (x3 = (0 : Int32)))) I4 J5)))) ∧ (¬ ((3 : Int32) ≤ v1) → CallI E mX4_takeNumber [.ref 17, .int (0 : Int32), .int (4 : Int32)] SH I J (fun x2009 I2010 J2011 => ((¬ x2009 = (0 : Int32) → (vp_in v1 3) ∧ HX4_takeMoves_20 E P (v1 + (1 : Int32)) (upI I2010 16 v1.toNatClampNeg (I2010 1 5)) J2011) ∧ (x2009 = (0 : Int32) → P (0 : Int32) I2010 J2011)))))) : HX4_takeMoves_20 E P v1 I J := by
  show V E mX4_takeMoves (kI SH P) 20 [.ref 17, .int v1] [] (SH, I, J) (0, 0)
  refine V_iload_n dX4_takeMoves_20 rfl ?_
  refine V_iconst (v := (3 : Int32)) dX4_takeMoves_21 rfl ?_
  refine V_icmp_ge dX4_takeMoves_22 (fun c1 => ?_) (fun c1 => ?_)
  · have k := k.1 c1
    refine V_aload_n dX4_takeMoves_58 rfl ?_
    refine U_getR dX4_takeMoves_59 fl_X4_15 s_17 rfl ?_
    refine U_callV1 [] dX4_takeMoves_62 ov_X4_138 s_10 rfl ⟨rfl, rfl, rfl⟩ rfl rfl rfl (tX3_allMoves10 ?_)
    refine V_if_gt dX4_takeMoves_65 (fun c2 => ?_) (fun c2 => ?_)
    · have k := k.1 c2
      refine V_iconst (v := (1 : Int32)) dX4_takeMoves_76 rfl ?_
      refine V_goto dX4_takeMoves_77 ?_
      exact V_iret dX4_takeMoves_81 ⟨_, rfl, rfl⟩ rfl rfl ⟨_, _, _, rfl, rfl, k⟩
    · have k := k.2 c2
      refine V_aload_n dX4_takeMoves_68 rfl ?_
      refine V_iconst (v := (3 : Int32)) dX4_takeMoves_69 rfl ?_
      refine U_callV1 [.int (3 : Int32)] dX4_takeMoves_70 ov_X4_63 s_17 rfl ⟨rfl, rfl, rfl⟩ rfl rfl rfl (CallI_mono k (fun x3 I4 J5 k => ?_))
      have key6 : ∀ (y2007 : Int32), y2007 = (b2i (¬ (x3 = (0 : Int32)))) → V E mX4_takeMoves (kI SH P) 81 [.ref 17, .int v1] [.int y2007] (SH, I4, J5) (0, 0) := by
        intro y2007 ey2007
        subst ey2007
        exact V_iret dX4_takeMoves_81 ⟨_, rfl, b2i_nar⟩ rfl rfl ⟨_, _, _, rfl, rfl, k⟩
      refine V_if_eq dX4_takeMoves_73 (fun c2008 => ?_) (fun c2008 => ?_)
      · refine V_iconst (v := (0 : Int32)) dX4_takeMoves_80 rfl ?_
        exact key6 _ ((b2i_0.mpr (fun q => q c2008)).symm)
      · refine V_iconst (v := (1 : Int32)) dX4_takeMoves_76 rfl ?_
        refine V_goto dX4_takeMoves_77 ?_
        exact key6 _ ((b2i_1.mpr (c2008)).symm)
  · have k := k.2 c1
    refine V_aload_n dX4_takeMoves_25 rfl ?_
    refine V_iconst (v := (0 : Int32)) dX4_takeMoves_26 rfl ?_
    refine V_iconst (v := (4 : Int32)) dX4_takeMoves_27 rfl ?_
    refine U_callV1 [.int (0 : Int32), .int (4 : Int32)] dX4_takeMoves_28 ov_X4_106 s_17 rfl ⟨rfl, rfl, rfl⟩ rfl rfl rfl (CallI_mono k (fun x2009 I2010 J2011 k => ?_))
    refine V_if_ne dX4_takeMoves_31 (fun c2012 => ?_) (fun c2012 => ?_)
    · have k := k.1 c2012
      refine V_aload_n dX4_takeMoves_36 rfl ?_
      refine U_getR dX4_takeMoves_37 fl_X4_15 s_17 rfl ?_
      refine U_getR dX4_takeMoves_40 fl_X4_136 s_10 rfl ?_
      refine V_iload_n dX4_takeMoves_43 rfl ?_
      refine V_aload_n dX4_takeMoves_44 rfl ?_
      refine U_getR dX4_takeMoves_45 fl_X4_9 s_17 rfl ?_
      refine U_getI dX4_takeMoves_48 fl_X4_66 s_1 rfl ?_
      obtain ⟨hb2013, k⟩ := k
      refine U_iast dX4_takeMoves_51 s_16 hb2013 ?_
      refine U_iinc (v := v1 + (1 : Int32)) (L2 := [.ref 17, .int (v1 + (1 : Int32))]) dX4_takeMoves_52 (by decide) rfl rfl rfl ?_
      refine V_goto dX4_takeMoves_55 ?_
      exact k
    · have k := k.2 c2012
      refine V_iconst (v := (0 : Int32)) dX4_takeMoves_34 rfl ?_
      exact V_iret dX4_takeMoves_35 ⟨_, rfl, rfl⟩ rfl rfl ⟨_, _, _, rfl, rfl, k⟩
theorem tX4_takeMoves {E : aE} {P : Int32 → hI_ → hJ_ → Prop} {n : Nat} {B : Nat → Nat} {I : hI_} {J : hJ_} {k0 : Nat} {D : Nat → Nat} (h : XB n B I) (hk : k0 ≤ n) (hT : XT n B k0 I) (hD : XD D I) (ok : DOK D) (kk : LXc I J (lnMoves n B k0 (tE n B k0) D) P) : CallI E mX4_takeMoves [.ref 17] SH I J P := by
  have o1 := ok.1
  have he := (tE_b (B := B) hk).2.1
  have he2 := (tE_b (B := B) he).2.1
  have he3 := (tE_b (B := B) he2).2.1
  unfold lnMoves at kk
  have hT0 := hT.1
  generalize hk1 : tE n B k0 = k1 at *
  generalize hk2 : tE n B k1 = k2 at *
  generalize hk3 : tE n B k2 = k3 at *
  have e8 : (nI (D 8) = 0) ↔ D 8 = 0 := nI_eqI (b := 0) (by omega) (by omega)
  refine wX4_takeMoves ?_
  rw [hD.2.1.1]
  refine ⟨fun z0 => ?_, fun z0 => ?_⟩
  · have z0 : ¬ ¬ D 8 = 0 := fun y => y (e8.mp z0)
    have f0 : frX I (upI I 17 4 1) := frX_up (by omega)
    refine wX4_takeMoves_20 ⟨fun y => absurd y (by decide), fun _ => ?_⟩
    refine tX4_takeNumber (lo := 0) (hx := 5) (XB_fr h f0) (by rw [upI_at, if_neg (by omega)]; exact hT0) he rfl (by omega) (by omega) (fun c1 I2 q1 q2 hT2 => ⟨fun _ => ⟨show vp_in (nI 0) 3 from vp_in_nI (by omega) (by omega), ?_⟩, fun y => absurd y (by decide)⟩) (fun c1 I2 q1 q2 q3 q4 => ⟨fun y => absurd rfl y, fun _ => LB kk (by unfold lnMoves3; rw [if_neg z0, if_neg c1]) c1 (frX_tr f0 (frX_17 q1 q2)) q3 q4⟩)
    have f2 : frX I (upI I2 16 0 (I2 1 5)) := frX_tr (frX_tr f0 (frX_1 q1 q2)) (frX_up (by omega))
    refine wX4_takeMoves_20 ⟨fun y => absurd y (by decide), fun _ => ?_⟩
    refine tX4_takeNumber (lo := 0) (hx := 5) (XB_fr h f2) (show (upI I2 16 0 (I2 1 5)) 1 2 = nI k2 by rw [upI_at, if_neg (by omega), hT2.1, hk2]) he2 rfl (by omega) (by omega) (fun c2 I3 r1 r2 hT3 => ⟨fun _ => ⟨show vp_in (nI 1) 3 from vp_in_nI (by omega) (by omega), ?_⟩, fun y => absurd y (by decide)⟩) (fun c2 I3 r1 r2 r3 r4 => ⟨fun y => absurd rfl y, fun _ => LB kk (by unfold lnMoves3; rw [if_neg z0, if_pos c1, if_neg c2]) c2 (frX_tr f2 (frX_17 r1 r2)) r3 r4⟩)
    have f3 : frX I (upI I3 16 1 (I3 1 5)) := frX_tr (frX_tr f2 (frX_1 r1 r2)) (frX_up (by omega))
    refine wX4_takeMoves_20 ⟨fun y => absurd y (by decide), fun _ => ?_⟩
    refine tX4_takeNumber (lo := 0) (hx := 5) (XB_fr h f3) (show (upI I3 16 1 (I3 1 5)) 1 2 = nI k3 by rw [upI_at, if_neg (by omega), hT3.1, hk3]) he3 rfl (by omega) (by omega) (fun c3 I4 s1 s2 hT4 => ⟨fun _ => ⟨show vp_in (nI 2) 3 from vp_in_nI (by omega) (by omega), ?_⟩, fun y => absurd y (by decide)⟩) (fun c3 I4 s1 s2 s3 s4 => ⟨fun y => absurd rfl y, fun _ => LB kk (by unfold lnMoves3; rw [if_neg z0, if_pos c1, if_pos c2, if_neg c3]) c3 (frX_tr f3 (frX_17 s1 s2)) s3 s4⟩)
    have d1 := cN0.mp c1
    have d2 := cN0.mp c2
    have d3 := cN0.mp c3
    have f4 : frX I (upI I4 16 2 (I4 1 5)) := frX_tr (frX_tr f3 (frX_1 s1 s2)) (frX_up (by omega))
    generalize hF : upI I4 16 2 (I4 1 5) = F at f4
    have hF' : upI I4 16 (0 + 1 + 1 : Int32).toNatClampNeg (I4 1 5) = F := hF
    rw [hF']
    have Fa : ∀ a, a ≠ 1 → a ≠ 16 → F a = (upI I 17 4 1) a := fun a x1 x2 => by
      rw [← hF]; funext j
      rw [upI_at, if_neg (fun z => x2 z.1), s1 a x1, upI_at, if_neg (fun z => x2 z.1), r1 a x1, upI_at, if_neg (fun z => x2 z.1), q1 a x1]
    have g2 : F 16 2 = nI (tV n B k3) := by rw [← hF, upI_at, if_pos ⟨rfl, rfl⟩]; exact hT4.2.2.2
    have g1 : F 16 1 = nI (tV n B k2) := by rw [← hF, upI_at, if_neg (by omega), s1 16 (by omega), upI_at, if_pos ⟨rfl, rfl⟩]; exact hT3.2.2.2
    have g0 : F 16 0 = nI (tV n B k1) := by rw [← hF, upI_at, if_neg (by omega), s1 16 (by omega), upI_at, if_neg (by decide), r1 16 (by omega), upI_at, if_pos ⟨rfl, rfl⟩]; exact hT2.2.2.2
    have F1 : XT n B k3 F := by rw [← hF]; exact XT_up hT4 (by omega)
    refine wX4_takeMoves_20 ⟨fun _ => ?_, fun y => absurd (by decide) y⟩
    rw [g0, g1, g2, nI_add, nI_add]
    have ep : (0 < nI (tV n B k1 + tV n B k2 + tV n B k3)) ↔ 0 < tV n B k1 + tV n B k2 + tV n B k3 := nI_ltJ (a := 0) (by omega) (by omega)
    refine ⟨fun y => ?_, fun y => ?_⟩
    · have y := ep.mp y
      refine LG kk (by unfold lnMoves3; rw [if_neg z0, if_pos c1, if_pos c2, if_pos c3, if_neg (by omega)]) f4 F1.1 ?_
      obtain ⟨⟨a1, a2, a3, a4, a5⟩, ⟨b1, b2, b3, b4⟩, cc1, dd1, e1, f1⟩ := hD
      unfold dMoves
      have G17 : ∀ j, j ≠ 4 → F 17 j = I 17 j := fun j hj => by rw [Fa 17 (by omega) (by omega), upI_at, if_neg (fun z => hj z.2)]
      have Go : ∀ a, a ≠ 1 → a ≠ 16 → a ≠ 17 → F a = I a := fun a x1 x2 x3 => by rw [Fa a x1 x2]; funext j; rw [upI_at, if_neg (fun z => x3 z.1)]
      refine ⟨?_, ⟨?_, ?_, ?_, ?_⟩, ⟨g0, g1, g2⟩, fun i hi => ?_, fun x y hx hy => ?_, fun s hs => ?_⟩
      · rw [Go 10 (by omega) (by omega) (by omega)]; exact ⟨a1, a2, a3, a4, a5⟩
      · rw [Fa 17 (by omega) (by omega)]; exact upI_same
      · rw [G17 5 (by omega)]; exact b2
      · rw [G17 6 (by omega)]; exact b3
      · rw [G17 2 (by omega)]; exact b4
      · rw [Go 11 (by omega) (by omega) (by omega), upN_o (by omega), upN_o (by omega), upN_o (by omega), upN_o (by omega)]; exact dd1 i hi
      · rw [Go 12 (by omega) (by omega) (by omega), upN_o (by omega), upN_o (by omega), upN_o (by omega), upN_o (by omega)]; exact e1 x y hx hy
      · have hs : s < D 2 := hs
        rw [Go 13 (by omega) (by omega) (by omega), Go 14 (by omega) (by omega) (by omega), Go 15 (by omega) (by omega) (by omega)]
        have uo : ∀ j, 11 ≤ j → upN (upN (upN (upN D 3 (tV n B k1)) 4 (tV n B k2)) 5 (tV n B k3)) 8 1 j = D j := fun j hj => by rw [upN_o (by omega), upN_o (by omega), upN_o (by omega), upN_o (by omega)]
        rw [uo _ (by omega), uo _ (by omega), uo _ (by omega), uo _ (by omega)]
        exact f1 s hs
    · have y : ¬ 0 < tV n B k1 + tV n B k2 + tV n B k3 := fun w => y (ep.mpr w)
      have f := fail_st (c := 3) f4 F1
      exact wX4_fail (LB kk (by unfold lnMoves3; rw [if_neg z0, if_pos c1, if_pos c2, if_pos c3, if_pos (by omega)]) (by omega) f.1 f.2.1 f.2.2)
  · have z0 : ¬ D 8 = 0 := fun y => z0 (e8.mpr y)
    have f := fail_st (c := 4) (frX_rf (I := I)) hT
    exact wX4_fail ⟨Or.inl rfl, LB kk (by unfold lnMoves3; rw [if_pos z0]) (by omega) f.1 f.2.1 f.2.2⟩
set_option maxHeartbeats 4000000 in
set_option maxRecDepth 20000 in
theorem wX4_takeMost {E : aE} {P : Int32 → hI_ → hJ_ → Prop} {I : hI_} {J : hJ_}  (k : (((I 17 6) = (0 : Int32) → CallI E mX4_takeNumber [.ref 17, .int (1 : Int32), .int (999 : Int32)] SH (upI I 17 6 (1 : Int32)) J (fun x2 I3 J4 => ((¬ x2 = (0 : Int32) → P (1 : Int32) (upI I3 10 10 (I3 1 5)) J4) ∧ (x2 = (0 : Int32) → P (0 : Int32) I3 J4)))) ∧ (¬ ((I 17 6) = (0 : Int32)) → CallI E mX4_fail [.ref 17, .int (4 : Int32)] SH I J (fun x6 I7 J8 => (x6 = 0 ∨ x6 = 1) ∧ P x6 I7 J8)))) : CallI E mX4_takeMost [.ref 17] SH I J P := by
  refine Call_of (L := [.ref 17]) ok_X4_takeMost.1 rfl rfl ?_
  refine V_aload_n dX4_takeMost_0 rfl ?_
  refine U_getI dX4_takeMost_1 fl_X4_43 s_17 rfl ?_
  refine V_if_eq dX4_takeMost_4 (fun c1 => ?_) (fun c1 => ?_)
  · have k := k.1 c1
    refine V_aload_n dX4_takeMost_13 rfl ?_
    refine V_iconst (v := (1 : Int32)) dX4_takeMost_14 rfl ?_
    refine U_putZ dX4_takeMost_15 fp_X4_43 (by decide) s_17 rfl ?_
    refine V_aload_n dX4_takeMost_18 rfl ?_
    refine V_iconst (v := (1 : Int32)) dX4_takeMost_19 rfl ?_
    refine V_sipush (v := (999 : Int32)) dX4_takeMost_20 rfl ?_
    refine U_callV1 [.int (1 : Int32), .int (999 : Int32)] dX4_takeMost_23 ov_X4_106 s_17 rfl ⟨rfl, rfl, rfl⟩ rfl rfl rfl (CallI_mono k (fun x2 I3 J4 k => ?_))
    refine V_if_ne dX4_takeMost_26 (fun c5 => ?_) (fun c5 => ?_)
    · have k := k.1 c5
      refine V_aload_n dX4_takeMost_31 rfl ?_
      refine U_getR dX4_takeMost_32 fl_X4_15 s_17 rfl ?_
      refine V_aload_n dX4_takeMost_35 rfl ?_
      refine U_getR dX4_takeMost_36 fl_X4_9 s_17 rfl ?_
      refine U_getI dX4_takeMost_39 fl_X4_66 s_1 rfl ?_
      refine U_putI dX4_takeMost_42 fp_X4_151 s_10 rfl ?_
      refine V_iconst (v := (1 : Int32)) dX4_takeMost_45 rfl ?_
      exact V_iret dX4_takeMost_46 ⟨_, rfl, rfl⟩ rfl rfl ⟨_, _, _, rfl, rfl, k⟩
    · have k := k.2 c5
      refine V_iconst (v := (0 : Int32)) dX4_takeMost_29 rfl ?_
      exact V_iret dX4_takeMost_30 ⟨_, rfl, rfl⟩ rfl rfl ⟨_, _, _, rfl, rfl, k⟩
  · have k := k.2 c1
    refine V_aload_n dX4_takeMost_7 rfl ?_
    refine V_iconst (v := (4 : Int32)) dX4_takeMost_8 rfl ?_
    refine U_callV1 [.int (4 : Int32)] dX4_takeMost_9 ov_X4_63 s_17 rfl ⟨rfl, rfl, rfl⟩ rfl rfl rfl (CallI_mono k (fun x6 I7 J8 k => ?_))
    obtain ⟨hz9, k⟩ := k
    exact V_iret dX4_takeMost_12 ⟨_, rfl, z_nar hz9⟩ rfl rfl ⟨_, _, _, rfl, rfl, k⟩
theorem tX4_takeMost {E : aE} {P : Int32 → hI_ → hJ_ → Prop} {n : Nat} {B : Nat → Nat} {I : hI_} {J : hJ_} {k0 : Nat} {D : Nat → Nat} (h : XB n B I) (hk : k0 ≤ n) (hT : XT n B k0 I) (hD : XD D I) (ok : DOK D) (kk : LXc I J (lnMost n B k0 (tE n B k0) D) P) : CallI E mX4_takeMost [.ref 17] SH I J P := by
  have o1 := ok.1
  have he := (tE_b (B := B) hk).2.1
  have e8 : (nI (D 10) = 0) ↔ D 10 = 0 := nI_eqI (b := 0) (by omega) (by omega)
  refine wX4_takeMost ?_
  rw [hD.2.1.2.2.1]
  refine ⟨fun z0 => ?_, fun z0 => ?_⟩
  · have z0 : ¬ ¬ D 10 = 0 := fun y => y (e8.mp z0)
    have f0 : frX I (upI I 17 6 1) := frX_up (by omega)
    refine tX4_takeNumber (lo := 1) (hx := 1000) (XB_fr h f0) (by rw [upI_at, if_neg (by omega)]; exact hT.1) he rfl (by omega) (by omega) (fun c1 I2 q1 q2 hT2 => ⟨fun _ => ?_, fun y => absurd y (by decide)⟩) (fun c1 I2 q1 q2 q3 q4 => ⟨fun y => absurd rfl y, fun _ => LB kk (by unfold lnMost; rw [if_neg z0, if_neg c1]) c1 (frX_tr f0 (frX_17 q1 q2)) q3 q4⟩)
    refine LG kk (by unfold lnMost; rw [if_neg z0, if_pos c1]) (frX_tr (frX_tr f0 (frX_1 q1 q2)) (frX_up (by omega))) (by rw [upI_at, if_neg (by omega)]; exact hT2.1) ?_
    obtain ⟨⟨a1, a2, a3, a4, a5⟩, ⟨b1, b2, b3, b4⟩, cc1, dd1, e1, f1⟩ := hD
    generalize hF : upI I2 10 10 (I2 1 5) = F
    have Fa : ∀ a, a ≠ 1 → a ≠ 10 → F a = (upI I 17 6 1) a := fun a x1 x2 => by
      rw [← hF]; funext j
      rw [upI_at, if_neg (fun z => x2 z.1), q1 a x1]
    have F10 : ∀ j, j ≠ 10 → F 10 j = I 10 j := fun j hj => by rw [← hF, upI_at, if_neg (fun z => hj z.2), q1 10 (by omega), upI_at, if_neg (by omega)]
    have G17 : ∀ j, j ≠ 6 → F 17 j = I 17 j := fun j hj => by rw [Fa 17 (by omega) (by omega), upI_at, if_neg (fun z => hj z.2)]
    have Go : ∀ a, a ≠ 1 → a ≠ 10 → a ≠ 17 → F a = I a := fun a x1 x2 x3 => by rw [Fa a x1 x2]; funext j; rw [upI_at, if_neg (fun z => x3 z.1)]
    have uo : ∀ j, j ≠ 7 → j ≠ 10 → upN (upN D 7 (tV n B (tE n B k0))) 10 1 j = D j := fun j h1 h2 => by rw [upN_o h2, upN_o h1]
    refine ⟨⟨?_, ?_, ?_, ?_, ?_⟩, ⟨?_, ?_, ?_, ?_⟩, ?_, fun i hi => ?_, fun x y hx hy => ?_, fun s hs => ?_⟩
    · rw [F10 6 (by omega)]; exact a1
    · rw [F10 7 (by omega)]; exact a2
    · rw [F10 8 (by omega)]; exact a3
    · rw [F10 9 (by omega)]; exact a4
    · rw [← hF, upI_at, if_pos ⟨rfl, rfl⟩]; exact hT2.2.2.2
    · rw [G17 4 (by omega)]; exact b1
    · rw [G17 5 (by omega)]; exact b2
    · rw [Fa 17 (by omega) (by omega)]; exact upI_same
    · rw [G17 2 (by omega)]; exact b4
    · rw [Go 16 (by omega) (by omega) (by omega)]; exact cc1
    · rw [Go 11 (by omega) (by omega) (by omega), uo _ (by omega) (by omega)]; exact dd1 i hi
    · rw [Go 12 (by omega) (by omega) (by omega), uo _ (by omega) (by omega)]; exact e1 x y hx hy
    · have hs : s < D 2 := hs
      rw [Go 13 (by omega) (by omega) (by omega), Go 14 (by omega) (by omega) (by omega), Go 15 (by omega) (by omega) (by omega), uo _ (by omega) (by omega), uo _ (by omega) (by omega), uo _ (by omega) (by omega), uo _ (by omega) (by omega)]
      exact f1 s hs
  · have z0 : ¬ D 10 = 0 := fun y => z0 (e8.mpr y)
    have f := fail_st (c := 4) (frX_rf (I := I)) hT
    exact wX4_fail ⟨Or.inl rfl, LB kk (by unfold lnMost; rw [if_pos z0]) (by omega) f.1 f.2.1 f.2.2⟩
set_option maxHeartbeats 4000000 in
set_option maxRecDepth 20000 in
theorem wX4_takeFirst {E : aE} {P : Int32 → hI_ → hJ_ → Prop} {I : hI_} {J : hJ_}  (k : (((I 17 5) = (0 : Int32) → CallV E mX8_advance [.ref 1] SH (upI I 17 5 (1 : Int32)) J (fun I3 J4 => CallI E mX4_isOf [.ref 17, .int (1 : Int32)] SH I3 J4 (fun x5 I6 J7 => ((¬ x5 = (0 : Int32) → ((¬ (isNmB I6 (5 : UInt32) = true) → ((¬ (isNmB I6 (6 : UInt32) = true) → ((¬ (isNmB I6 (7 : UInt32) = true) → CallI E mX4_fail [.ref 17, .int (2 : Int32)] SH I6 J7 (fun x12 I13 J14 => (x12 = 0 ∨ x12 = 1) ∧ P x12 I13 J14)) ∧ ((isNmB I6 (7 : UInt32) = true) → P (1 : Int32) (upI I6 10 9 (2 : Int32)) J7))) ∧ ((isNmB I6 (6 : UInt32) = true) → P (1 : Int32) (upI I6 10 9 (1 : Int32)) J7))) ∧ ((isNmB I6 (5 : UInt32) = true) → P (1 : Int32) (upI I6 10 9 (0 : Int32)) J7))) ∧ (x5 = (0 : Int32) → P (0 : Int32) I6 J7))))) ∧ (¬ ((I 17 5) = (0 : Int32)) → CallI E mX4_fail [.ref 17, .int (4 : Int32)] SH I J (fun x16 I17 J18 => (x16 = 0 ∨ x16 = 1) ∧ P x16 I17 J18)))) : CallI E mX4_takeFirst [.ref 17] SH I J P := by
  refine Call_of (L := [.ref 17]) ok_X4_takeFirst.1 rfl rfl ?_
  refine V_aload_n dX4_takeFirst_0 rfl ?_
  refine U_getI dX4_takeFirst_1 fl_X4_40 s_17 rfl ?_
  refine V_if_eq dX4_takeFirst_4 (fun c1 => ?_) (fun c1 => ?_)
  · have k := k.1 c1
    refine V_aload_n dX4_takeFirst_13 rfl ?_
    refine V_iconst (v := (1 : Int32)) dX4_takeFirst_14 rfl ?_
    refine U_putZ dX4_takeFirst_15 fp_X4_40 (by decide) s_17 rfl ?_
    refine V_aload_n dX4_takeFirst_18 rfl ?_
    refine U_getR dX4_takeFirst_19 fl_X4_9 s_17 rfl ?_
    refine U_callV0 [] dX4_takeFirst_22 ov_X4_46 s_1 rfl ⟨rfl, rfl, rfl⟩ rfl rfl rfl (CallV_mono k (fun I3 J4 k => ?_))
    refine V_aload_n dX4_takeFirst_25 rfl ?_
    refine V_iconst (v := (1 : Int32)) dX4_takeFirst_26 rfl ?_
    refine U_callV1 [.int (1 : Int32)] dX4_takeFirst_27 ov_X4_52 s_17 rfl ⟨rfl, rfl, rfl⟩ rfl rfl rfl (CallI_mono k (fun x5 I6 J7 k => ?_))
    refine V_if_ne dX4_takeFirst_30 (fun c8 => ?_) (fun c8 => ?_)
    · have k := k.1 c8
      refine V_aload_n dX4_takeFirst_35 rfl ?_
      refine U_getR dX4_takeFirst_36 fl_X4_9 s_17 rfl ?_
      refine V_ldcS (j := 5) dX4_takeFirst_39 rfl (by decide) rfl ?_
      refine U_callV1 [.float 5] dX4_takeFirst_41 ov_X4_71 s_1 rfl ⟨rfl, rfl, rfl⟩ rfl rfl rfl (tX8_isName (by first | decide | assumption) ?_)
      refine U_ifb_eq dX4_takeFirst_44 (fun c9 => ?_) (fun c9 => ?_)
      · have k := k.1 c9
        refine V_aload_n dX4_takeFirst_58 rfl ?_
        refine U_getR dX4_takeFirst_59 fl_X4_9 s_17 rfl ?_
        refine V_ldcS (j := 6) dX4_takeFirst_62 rfl (by decide) rfl ?_
        refine U_callV1 [.float 6] dX4_takeFirst_64 ov_X4_71 s_1 rfl ⟨rfl, rfl, rfl⟩ rfl rfl rfl (tX8_isName (by first | decide | assumption) ?_)
        refine U_ifb_eq dX4_takeFirst_67 (fun c10 => ?_) (fun c10 => ?_)
        · have k := k.1 c10
          refine V_aload_n dX4_takeFirst_81 rfl ?_
          refine U_getR dX4_takeFirst_82 fl_X4_9 s_17 rfl ?_
          refine V_ldcS (j := 7) dX4_takeFirst_85 rfl (by decide) rfl ?_
          refine U_callV1 [.float 7] dX4_takeFirst_87 ov_X4_71 s_1 rfl ⟨rfl, rfl, rfl⟩ rfl rfl rfl (tX8_isName (by first | decide | assumption) ?_)
          refine U_ifb_eq dX4_takeFirst_90 (fun c11 => ?_) (fun c11 => ?_)
          · have k := k.1 c11
            refine V_aload_n dX4_takeFirst_104 rfl ?_
            refine V_iconst (v := (2 : Int32)) dX4_takeFirst_105 rfl ?_
            refine U_callV1 [.int (2 : Int32)] dX4_takeFirst_106 ov_X4_63 s_17 rfl ⟨rfl, rfl, rfl⟩ rfl rfl rfl (CallI_mono k (fun x12 I13 J14 k => ?_))
            obtain ⟨hz15, k⟩ := k
            exact V_iret dX4_takeFirst_109 ⟨_, rfl, z_nar hz15⟩ rfl rfl ⟨_, _, _, rfl, rfl, k⟩
          · have k := k.2 c11
            refine V_aload_n dX4_takeFirst_93 rfl ?_
            refine U_getR dX4_takeFirst_94 fl_X4_15 s_17 rfl ?_
            refine V_iconst (v := (2 : Int32)) dX4_takeFirst_97 rfl ?_
            refine U_putI dX4_takeFirst_98 fp_X4_144 s_10 rfl ?_
            refine V_goto dX4_takeFirst_101 ?_
            refine V_iconst (v := (1 : Int32)) dX4_takeFirst_110 rfl ?_
            exact V_iret dX4_takeFirst_111 ⟨_, rfl, rfl⟩ rfl rfl ⟨_, _, _, rfl, rfl, k⟩
        · have k := k.2 c10
          refine V_aload_n dX4_takeFirst_70 rfl ?_
          refine U_getR dX4_takeFirst_71 fl_X4_15 s_17 rfl ?_
          refine V_iconst (v := (1 : Int32)) dX4_takeFirst_74 rfl ?_
          refine U_putI dX4_takeFirst_75 fp_X4_144 s_10 rfl ?_
          refine V_goto dX4_takeFirst_78 ?_
          refine V_iconst (v := (1 : Int32)) dX4_takeFirst_110 rfl ?_
          exact V_iret dX4_takeFirst_111 ⟨_, rfl, rfl⟩ rfl rfl ⟨_, _, _, rfl, rfl, k⟩
      · have k := k.2 c9
        refine V_aload_n dX4_takeFirst_47 rfl ?_
        refine U_getR dX4_takeFirst_48 fl_X4_15 s_17 rfl ?_
        refine V_iconst (v := (0 : Int32)) dX4_takeFirst_51 rfl ?_
        refine U_putI dX4_takeFirst_52 fp_X4_144 s_10 rfl ?_
        refine V_goto dX4_takeFirst_55 ?_
        refine V_iconst (v := (1 : Int32)) dX4_takeFirst_110 rfl ?_
        exact V_iret dX4_takeFirst_111 ⟨_, rfl, rfl⟩ rfl rfl ⟨_, _, _, rfl, rfl, k⟩
    · have k := k.2 c8
      refine V_iconst (v := (0 : Int32)) dX4_takeFirst_33 rfl ?_
      exact V_iret dX4_takeFirst_34 ⟨_, rfl, rfl⟩ rfl rfl ⟨_, _, _, rfl, rfl, k⟩
  · have k := k.2 c1
    refine V_aload_n dX4_takeFirst_7 rfl ?_
    refine V_iconst (v := (4 : Int32)) dX4_takeFirst_8 rfl ?_
    refine U_callV1 [.int (4 : Int32)] dX4_takeFirst_9 ov_X4_63 s_17 rfl ⟨rfl, rfl, rfl⟩ rfl rfl rfl (CallI_mono k (fun x16 I17 J18 k => ?_))
    obtain ⟨hz19, k⟩ := k
    exact V_iret dX4_takeFirst_12 ⟨_, rfl, z_nar hz19⟩ rfl rfl ⟨_, _, _, rfl, rfl, k⟩
theorem tX4_takeFirst {E : aE} {P : Int32 → hI_ → hJ_ → Prop} {n : Nat} {B : Nat → Nat} {I : hI_} {J : hJ_} {k0 : Nat} {D : Nat → Nat} (h : XB n B I) (hk : k0 ≤ n) (hT : XT n B k0 I) (hD : XD D I) (ok : DOK D) (kk : LXc I J (lnFirst n B k0 (tE n B k0) D) P) : CallI E mX4_takeFirst [.ref 17] SH I J P := by
  have o1 := ok.1
  have he := (tE_b (B := B) hk).2.1
  have e8 : (nI (D 9) = 0) ↔ D 9 = 0 := nI_eqI (b := 0) (by omega) (by omega)
  refine wX4_takeFirst ?_
  rw [hD.2.1.2.1]
  refine ⟨fun z0 => ?_, fun z0 => ?_⟩
  · have z0 : ¬ ¬ D 9 = 0 := fun y => y (e8.mp z0)
    have f0 : frX I (upI I 17 5 1) := frX_up (by omega)
    refine tX8_advance (XB_fr h f0) (show (upI I 17 5 1) 1 2 = nI (tE n B k0) by rw [upI_at, if_neg (by omega)]; exact hT.1) he (fun I2 q1 q2 hT2 => ?_)
    have f2 := frX_tr f0 (frX_1 q1 q2)
    have k4 := tK_4 n B (tE n B k0)
    have e4 : (nI (tK n B (tE n B k0)) = 4) ↔ tK n B (tE n B k0) = 4 := nI_eqI (b := 4) (by omega) (by omega)
    have e1 : (nI (tK n B (tE n B k0)) = 1) ↔ tK n B (tE n B k0) = 1 := nI_eqI (b := 1) (by omega) (by omega)
    have hB2 := XB_fr h f2
    have n9 := nmI_9 (n := n) (B := B) (k := tE n B k0)
    refine wX4_isOf ?_
    rw [hT2.2.1]
    refine ⟨fun z => ?_, fun z => ?_⟩
    · have z : ¬ tK n B (tE n B k0) = 4 := fun y => z (e4.mpr y)
      refine ⟨fun z1 => ⟨fun _ => ?_, fun y => absurd y (by decide)⟩, fun z1 => ?_⟩
      · have i5 := isNm_I hB2 he hT2 (j := 5) (by decide)
        have i6 := isNm_I hB2 he hT2 (j := 6) (by decide)
        have i7 := isNm_I hB2 he hT2 (j := 7) (by decide)
        have c5 : cMap.getD (5 : UInt32).toNat 0 = 6 := rfl
        have c6 : cMap.getD (6 : UInt32).toNat 0 = 7 := rfl
        have c7 : cMap.getD (7 : UInt32).toNat 0 = 8 := rfl
        rw [c5] at i5
        rw [c6] at i6
        rw [c7] at i7
        have good : ∀ v : Nat, nmI n B (tE n B k0) = v + 6 → v ≤ 2 → P 1 (upI I2 10 9 (nI v)) J := fun v hv hv2 => by
          refine LG kk (by unfold lnFirst; rw [if_neg z0, if_neg z, if_neg (by omega)]) (frX_tr f2 (frX_up (by omega))) (by rw [upI_at, if_neg (by omega)]; exact hT2.1) ?_
          obtain ⟨⟨a1, a2, a3, a4, a5⟩, ⟨b1, b2, b3, b4⟩, cc1, dd1, ee1, f1⟩ := hD
          rw [hv, Nat.add_sub_cancel]
          generalize hF : upI I2 10 9 (nI v) = F
          have Fa : ∀ a, a ≠ 1 → a ≠ 10 → F a = (upI I 17 5 1) a := fun a x1 x2 => by
            rw [← hF]; funext j
            rw [upI_at, if_neg (fun z => x2 z.1), q1 a x1]
          have F10 : ∀ j, j ≠ 9 → F 10 j = I 10 j := fun j hj => by rw [← hF, upI_at, if_neg (fun z => hj z.2), q1 10 (by omega), upI_at, if_neg (by omega)]
          have G17 : ∀ j, j ≠ 5 → F 17 j = I 17 j := fun j hj => by rw [Fa 17 (by omega) (by omega), upI_at, if_neg (fun z => hj z.2)]
          have Go : ∀ a, a ≠ 1 → a ≠ 10 → a ≠ 17 → F a = I a := fun a x1 x2 x3 => by rw [Fa a x1 x2]; funext j; rw [upI_at, if_neg (fun z => x3 z.1)]
          have uo : ∀ j, j ≠ 6 → j ≠ 9 → upN (upN D 6 v) 9 1 j = D j := fun j h1 h2 => by rw [upN_o h2, upN_o h1]
          refine ⟨⟨?_, ?_, ?_, ?_, ?_⟩, ⟨?_, ?_, ?_, ?_⟩, ?_, fun i hi => ?_, fun x y hx hy => ?_, fun s hs => ?_⟩
          · rw [F10 6 (by omega)]; exact a1
          · rw [F10 7 (by omega)]; exact a2
          · rw [F10 8 (by omega)]; exact a3
          · rw [← hF, upI_at, if_pos ⟨rfl, rfl⟩]; rfl
          · rw [F10 10 (by omega)]; exact a5
          · rw [G17 4 (by omega)]; exact b1
          · rw [Fa 17 (by omega) (by omega)]; exact upI_same
          · rw [G17 6 (by omega)]; exact b3
          · rw [G17 2 (by omega)]; exact b4
          · rw [Go 16 (by omega) (by omega) (by omega)]; exact cc1
          · rw [Go 11 (by omega) (by omega) (by omega), uo _ (by omega) (by omega)]; exact dd1 i hi
          · rw [Go 12 (by omega) (by omega) (by omega), uo _ (by omega) (by omega)]; exact ee1 x y hx hy
          · have hs : s < D 2 := hs
            rw [Go 13 (by omega) (by omega) (by omega), Go 14 (by omega) (by omega) (by omega), Go 15 (by omega) (by omega) (by omega), uo _ (by omega) (by omega), uo _ (by omega) (by omega), uo _ (by omega) (by omega), uo _ (by omega) (by omega)]
            exact f1 s hs
        refine ⟨fun w5 => ⟨fun w6 => ⟨fun w7 => ?_, fun w7 => good 2 (i7.mp w7) (by omega)⟩, fun w6 => good 1 (i6.mp w6) (by omega)⟩, fun w5 => good 0 (i5.mp w5) (by omega)⟩
        have w5 : ¬ nmI n B (tE n B k0) = 6 := fun y => w5 (i5.mpr y)
        have w6 : ¬ nmI n B (tE n B k0) = 7 := fun y => w6 (i6.mpr y)
        have w7 : ¬ nmI n B (tE n B k0) = 8 := fun y => w7 (i7.mpr y)
        have f := fail_st (c := 2) f2 hT2
        exact wX4_fail ⟨Or.inl rfl, LB kk (by unfold lnFirst; rw [if_neg z0, if_neg z, if_pos (by omega)]) (by omega) f.1 f.2.1 f.2.2⟩
      · have z1 : ¬ tK n B (tE n B k0) = 1 := fun y => z1 (e1.mpr y)
        have no : nmI n B (tE n B k0) = 9 := by
          rcases Nat.lt_or_ge (nmI n B (tE n B k0)) 9 with y | y
          · exact absurd (nmP_iff.mp (nmI_is y)).1 z1
          · omega
        have f := fail_st (c := 2) f2 hT2
        exact wX4_fail ⟨fun y => absurd rfl y, fun _ => LB kk (by unfold lnFirst; rw [if_neg z0, if_neg z, if_pos (by omega)]) (by omega) f.1 f.2.1 f.2.2⟩
    · have z := e4.mp z
      have f := fail_st (c := 1) f2 hT2
      exact wX4_fail ⟨Or.inl rfl, fun y => absurd rfl y, fun _ => LB kk (by unfold lnFirst; rw [if_neg z0, if_pos z]) (by omega) f.1 f.2.1 f.2.2⟩
  · have z0 : ¬ D 9 = 0 := fun y => z0 (e8.mpr y)
    have f := fail_st (c := 4) (frX_rf (I := I)) hT
    exact wX4_fail ⟨Or.inl rfl, LB kk (by unfold lnFirst; rw [if_pos z0]) (by omega) f.1 f.2.1 f.2.2⟩
set_option maxHeartbeats 4000000 in
set_option maxRecDepth 20000 in
theorem wX4_takeLine {E : aE} {P : Int32 → hI_ → hJ_ → Prop} {I : hI_} {J : hJ_}  (k : ((¬ (isNmB I (0 : UInt32) = true) → ((¬ (isNmB I (1 : UInt32) = true) → ((¬ (isNmB I (2 : UInt32) = true) → ((¬ (isNmB I (3 : UInt32) = true) → ((¬ (isNmB I (4 : UInt32) = true) → ((¬ (isNmB I (8 : UInt32) = true) → CallI E mX4_fail [.ref 17, .int (2 : Int32)] SH I J (fun x7 I8 J9 => (x7 = 0 ∨ x7 = 1) ∧ P x7 I8 J9)) ∧ ((isNmB I (8 : UInt32) = true) → CallI E mX4_takeMost [.ref 17] SH I J (fun x11 I12 J13 => (x11 = 0 ∨ x11 = 1) ∧ P x11 I12 J13)))) ∧ ((isNmB I (4 : UInt32) = true) → CallI E mX4_takeFirst [.ref 17] SH I J (fun x15 I16 J17 => (x15 = 0 ∨ x15 = 1) ∧ P x15 I16 J17)))) ∧ ((isNmB I (3 : UInt32) = true) → CallI E mX4_takeMoves [.ref 17] SH I J (fun x19 I20 J21 => (x19 = 0 ∨ x19 = 1) ∧ P x19 I20 J21)))) ∧ ((isNmB I (2 : UInt32) = true) → CallI E mX4_takeShut [.ref 17] SH I J (fun x23 I24 J25 => (x23 = 0 ∨ x23 = 1) ∧ P x23 I24 J25)))) ∧ ((isNmB I (1 : UInt32) = true) → CallI E mX4_takeWay [.ref 17] SH I J (fun x27 I28 J29 => (x27 = 0 ∨ x27 = 1) ∧ P x27 I28 J29)))) ∧ ((isNmB I (0 : UInt32) = true) → CallI E mX4_takePlace [.ref 17] SH I J (fun x31 I32 J33 => (x31 = 0 ∨ x31 = 1) ∧ P x31 I32 J33)))) : CallI E mX4_takeLine [.ref 17] SH I J P := by
  refine Call_of (L := [.ref 17]) ok_X4_takeLine.1 rfl rfl ?_
  refine V_aload_n dX4_takeLine_0 rfl ?_
  refine U_getR dX4_takeLine_1 fl_X4_9 s_17 rfl ?_
  refine V_ldcS (j := 0) dX4_takeLine_4 rfl (by decide) rfl ?_
  refine U_callV1 [.float 0] dX4_takeLine_6 ov_X4_71 s_1 rfl ⟨rfl, rfl, rfl⟩ rfl rfl rfl (tX8_isName (by first | decide | assumption) ?_)
  refine U_ifb_eq dX4_takeLine_9 (fun c1 => ?_) (fun c1 => ?_)
  · have k := k.1 c1
    refine V_aload_n dX4_takeLine_17 rfl ?_
    refine U_getR dX4_takeLine_18 fl_X4_9 s_17 rfl ?_
    refine V_ldcS (j := 1) dX4_takeLine_21 rfl (by decide) rfl ?_
    refine U_callV1 [.float 1] dX4_takeLine_23 ov_X4_71 s_1 rfl ⟨rfl, rfl, rfl⟩ rfl rfl rfl (tX8_isName (by first | decide | assumption) ?_)
    refine U_ifb_eq dX4_takeLine_26 (fun c2 => ?_) (fun c2 => ?_)
    · have k := k.1 c2
      refine V_aload_n dX4_takeLine_34 rfl ?_
      refine U_getR dX4_takeLine_35 fl_X4_9 s_17 rfl ?_
      refine V_ldcS (j := 2) dX4_takeLine_38 rfl (by decide) rfl ?_
      refine U_callV1 [.float 2] dX4_takeLine_40 ov_X4_71 s_1 rfl ⟨rfl, rfl, rfl⟩ rfl rfl rfl (tX8_isName (by first | decide | assumption) ?_)
      refine U_ifb_eq dX4_takeLine_43 (fun c3 => ?_) (fun c3 => ?_)
      · have k := k.1 c3
        refine V_aload_n dX4_takeLine_51 rfl ?_
        refine U_getR dX4_takeLine_52 fl_X4_9 s_17 rfl ?_
        refine V_ldcS (j := 3) dX4_takeLine_55 rfl (by decide) rfl ?_
        refine U_callV1 [.float 3] dX4_takeLine_57 ov_X4_71 s_1 rfl ⟨rfl, rfl, rfl⟩ rfl rfl rfl (tX8_isName (by first | decide | assumption) ?_)
        refine U_ifb_eq dX4_takeLine_60 (fun c4 => ?_) (fun c4 => ?_)
        · have k := k.1 c4
          refine V_aload_n dX4_takeLine_68 rfl ?_
          refine U_getR dX4_takeLine_69 fl_X4_9 s_17 rfl ?_
          refine V_ldcS (j := 4) dX4_takeLine_72 rfl (by decide) rfl ?_
          refine U_callV1 [.float 4] dX4_takeLine_74 ov_X4_71 s_1 rfl ⟨rfl, rfl, rfl⟩ rfl rfl rfl (tX8_isName (by first | decide | assumption) ?_)
          refine U_ifb_eq dX4_takeLine_77 (fun c5 => ?_) (fun c5 => ?_)
          · have k := k.1 c5
            refine V_aload_n dX4_takeLine_85 rfl ?_
            refine U_getR dX4_takeLine_86 fl_X4_9 s_17 rfl ?_
            refine V_ldcS (j := 8) dX4_takeLine_89 rfl (by decide) rfl ?_
            refine U_callV1 [.float 8] dX4_takeLine_91 ov_X4_71 s_1 rfl ⟨rfl, rfl, rfl⟩ rfl rfl rfl (tX8_isName (by first | decide | assumption) ?_)
            refine U_ifb_eq dX4_takeLine_94 (fun c6 => ?_) (fun c6 => ?_)
            · have k := k.1 c6
              refine V_aload_n dX4_takeLine_102 rfl ?_
              refine V_iconst (v := (2 : Int32)) dX4_takeLine_103 rfl ?_
              refine U_callV1 [.int (2 : Int32)] dX4_takeLine_104 ov_X4_63 s_17 rfl ⟨rfl, rfl, rfl⟩ rfl rfl rfl (CallI_mono k (fun x7 I8 J9 k => ?_))
              obtain ⟨hz10, k⟩ := k
              exact V_iret dX4_takeLine_107 ⟨_, rfl, z_nar hz10⟩ rfl rfl ⟨_, _, _, rfl, rfl, k⟩
            · have k := k.2 c6
              refine V_aload_n dX4_takeLine_97 rfl ?_
              refine U_callV1 [] dX4_takeLine_98 ov_X4_100 s_17 rfl ⟨rfl, rfl, rfl⟩ rfl rfl rfl (CallI_mono k (fun x11 I12 J13 k => ?_))
              obtain ⟨hz14, k⟩ := k
              exact V_iret dX4_takeLine_101 ⟨_, rfl, z_nar hz14⟩ rfl rfl ⟨_, _, _, rfl, rfl, k⟩
          · have k := k.2 c5
            refine V_aload_n dX4_takeLine_80 rfl ?_
            refine U_callV1 [] dX4_takeLine_81 ov_X4_95 s_17 rfl ⟨rfl, rfl, rfl⟩ rfl rfl rfl (CallI_mono k (fun x15 I16 J17 k => ?_))
            obtain ⟨hz18, k⟩ := k
            exact V_iret dX4_takeLine_84 ⟨_, rfl, z_nar hz18⟩ rfl rfl ⟨_, _, _, rfl, rfl, k⟩
        · have k := k.2 c4
          refine V_aload_n dX4_takeLine_63 rfl ?_
          refine U_callV1 [] dX4_takeLine_64 ov_X4_90 s_17 rfl ⟨rfl, rfl, rfl⟩ rfl rfl rfl (CallI_mono k (fun x19 I20 J21 k => ?_))
          obtain ⟨hz22, k⟩ := k
          exact V_iret dX4_takeLine_67 ⟨_, rfl, z_nar hz22⟩ rfl rfl ⟨_, _, _, rfl, rfl, k⟩
      · have k := k.2 c3
        refine V_aload_n dX4_takeLine_46 rfl ?_
        refine U_callV1 [] dX4_takeLine_47 ov_X4_85 s_17 rfl ⟨rfl, rfl, rfl⟩ rfl rfl rfl (CallI_mono k (fun x23 I24 J25 k => ?_))
        obtain ⟨hz26, k⟩ := k
        exact V_iret dX4_takeLine_50 ⟨_, rfl, z_nar hz26⟩ rfl rfl ⟨_, _, _, rfl, rfl, k⟩
    · have k := k.2 c2
      refine V_aload_n dX4_takeLine_29 rfl ?_
      refine U_callV1 [] dX4_takeLine_30 ov_X4_80 s_17 rfl ⟨rfl, rfl, rfl⟩ rfl rfl rfl (CallI_mono k (fun x27 I28 J29 k => ?_))
      obtain ⟨hz30, k⟩ := k
      exact V_iret dX4_takeLine_33 ⟨_, rfl, z_nar hz30⟩ rfl rfl ⟨_, _, _, rfl, rfl, k⟩
  · have k := k.2 c1
    refine V_aload_n dX4_takeLine_12 rfl ?_
    refine U_callV1 [] dX4_takeLine_13 ov_X4_75 s_17 rfl ⟨rfl, rfl, rfl⟩ rfl rfl rfl (CallI_mono k (fun x31 I32 J33 k => ?_))
    obtain ⟨hz34, k⟩ := k
    exact V_iret dX4_takeLine_16 ⟨_, rfl, z_nar hz34⟩ rfl rfl ⟨_, _, _, rfl, rfl, k⟩
theorem tX4_takeLine {E : aE} {P : Int32 → hI_ → hJ_ → Prop} {n : Nat} {B : Nat → Nat} {I : hI_} {J : hJ_} {k0 : Nat} {D : Nat → Nat} (h : XB n B I) (hk : k0 ≤ n) (hT : XT n B k0 I) (hD : XD D I) (ok : DOK D) (kk : LXc I J (line n B k0 D) P) : CallI E mX4_takeLine [.ref 17] SH I J P := by
  have i0 := isNm_I h hk hT (j := 0) (by decide)
  have i1 := isNm_I h hk hT (j := 1) (by decide)
  have i2 := isNm_I h hk hT (j := 2) (by decide)
  have i3 := isNm_I h hk hT (j := 3) (by decide)
  have i4 := isNm_I h hk hT (j := 4) (by decide)
  have i8 := isNm_I h hk hT (j := 8) (by decide)
  have m0 : cMap.getD (0 : UInt32).toNat 0 = 0 := rfl
  have m1 : cMap.getD (1 : UInt32).toNat 0 = 1 := rfl
  have m2 : cMap.getD (2 : UInt32).toNat 0 = 2 := rfl
  have m3 : cMap.getD (3 : UInt32).toNat 0 = 3 := rfl
  have m4 : cMap.getD (4 : UInt32).toNat 0 = 4 := rfl
  have m8 : cMap.getD (8 : UInt32).toNat 0 = 5 := rfl
  rw [m0] at i0
  rw [m1] at i1
  rw [m2] at i2
  rw [m3] at i3
  rw [m4] at i4
  rw [m8] at i8
  have two : ∀ r, line n B k0 D = r → LXc I J r (fun x I2 J2 => (x = 0 ∨ x = 1) ∧ P x I2 J2) := fun r hr x I2 hf h1 h2 => by
    refine ⟨?_, kk x I2 hf (by rw [hr]; exact h1) (by rw [hr]; exact h2)⟩
    by_cases z : r.1 = 0
    · exact Or.inr (h1 z).1
    · exact Or.inl (h2 z).1
  unfold line at two
  refine wX4_takeLine ⟨fun z0 => ?_, fun z0 => tX4_takePlace h hk hT hD ok (two _ (by rw [if_pos (i0.mp z0)]))⟩
  have z0 : ¬ nmI n B k0 = 0 := fun y => z0 (i0.mpr y)
  refine ⟨fun z1 => ?_, fun z1 => tX4_takeWay h hk hT hD ok (two _ (by rw [if_neg z0, if_pos (i1.mp z1)]))⟩
  have z1 : ¬ nmI n B k0 = 1 := fun y => z1 (i1.mpr y)
  refine ⟨fun z2 => ?_, fun z2 => tX4_takeShut h hk hT hD ok (two _ (by rw [if_neg z0, if_neg z1, if_pos (i2.mp z2)]))⟩
  have z2 : ¬ nmI n B k0 = 2 := fun y => z2 (i2.mpr y)
  refine ⟨fun z3 => ?_, fun z3 => tX4_takeMoves h hk hT hD ok (two _ (by rw [if_neg z0, if_neg z1, if_neg z2, if_pos (i3.mp z3)]))⟩
  have z3 : ¬ nmI n B k0 = 3 := fun y => z3 (i3.mpr y)
  refine ⟨fun z4 => ?_, fun z4 => tX4_takeFirst h hk hT hD ok (two _ (by rw [if_neg z0, if_neg z1, if_neg z2, if_neg z3, if_pos (i4.mp z4)]))⟩
  have z4 : ¬ nmI n B k0 = 4 := fun y => z4 (i4.mpr y)
  refine ⟨fun z5 => ?_, fun z5 => tX4_takeMost h hk hT hD ok (two _ (by rw [if_neg z0, if_neg z1, if_neg z2, if_neg z3, if_neg z4, if_pos (i8.mp z5)]))⟩
  have z5 : ¬ nmI n B k0 = 5 := fun y => z5 (i8.mpr y)
  have f := fail_st (c := 2) (frX_rf (I := I)) hT
  exact wX4_fail (LB (two (2, tS n B k0, 0, D) (by rw [if_neg z0, if_neg z1, if_neg z2, if_neg z3, if_neg z4, if_neg z5])) rfl (by omega) f.1 f.2.1 f.2.2)
