theorem tb_1 {v : Int32} {d : Nat} (hd : d < 24) : ((v >>> (nI d &&& 31)) &&& 1 = 1) ↔ tb v d = true := by
  constructor
  · intro h
    cases q : tb v d with
    | true => rfl
    | false => rw [(tb_is hd).mpr q] at h; exact absurd h (by decide)
  · intro h
    unfold tb at h
    rw [← Int32.toBitVec_inj, Int32.toBitVec_and, Int32.toBitVec_shiftRight, BitVec.sshiftRight_eq', n31 d hd, show Int32.toBitVec 1 = 1#32 from rfl]
    have e0 : (v.toBitVec.sshiftRight d).getLsbD 0 = v.toBitVec.getLsbD d := by
      rw [BitVec.getLsbD_sshiftRight]
      simp; omega
    rw [← e0] at h
    generalize v.toBitVec.sshiftRight d = X at h ⊢
    apply BitVec.eq_of_getLsbD_eq
    intro i hi
    rw [BitVec.getLsbD_and, BitVec.getLsbD_one]
    by_cases z : i = 0
    · rw [z, h]; rfl
    · simp [z]
def HX12_readShut_83 (E : aE) (P : hI_ → hJ_ → Prop) (v1 : Int32) (v2 : Int32) (v3 : Int32) (I : hI_) (J : hJ_) : Prop := V E mX12_readShut (kV SH P) 83 [.ref 68, .int v1, .int v2, .int v3, .retAddr 0, .retAddr 0] [] (SH, I, J) (0, 0)
def HX12_readShut_88 (E : aE) (P : hI_ → hJ_ → Prop) (v1 : Int32) (v2 : Int32) (v3 : Int32) (I : hI_) (J : hJ_) : Prop := V E mX12_readShut (kV SH P) 88 [.ref 68, .int v1, .int v2, .int v3, .retAddr 0, .retAddr 0] [] (SH, I, J) (0, 0)
set_option maxHeartbeats 4000000 in
set_option maxRecDepth 20000 in
theorem wX12_readShut {E : aE} {P : hI_ → hJ_ → Prop} {I : hI_} {J : hJ_}  (k : ((¬ (I 77 2) = (12 : Int32) → CallV E mX12_next [.ref 68] SH I J (fun I3 J4 => CallI E mX12_number [.ref 68, .int (0 : Int32), .int ((I3 77 0) - (1 : Int32))] SH I3 J4 (fun x5 I6 J7 => CallI E mX12_here [.ref 68, .int (0 : Int32), .int ((I6 77 0) - (1 : Int32))] SH I6 J7 (fun x8 I9 J10 => ((¬ (I9 68 3) = (0 : Int32) → HX12_readShut_88 E P ((4 : Int32) * (I3 77 2)) x5 x8 I9 J10) ∧ ((I9 68 3) = (0 : Int32) → ((x5 = x8 → HX12_readShut_83 E P ((4 : Int32) * (I3 77 2)) x5 x8 I9 J10) ∧ (¬ (x5 = x8) → (vp_in (((5 : Int32) * x5) + x8) 25) ∧ ((¬ (I9 79 (((5 : Int32) * x5) + x8).toNatClampNeg) = (0 : Int32) → HX12_readShut_88 E P ((4 : Int32) * (I3 77 2)) x5 x8 I9 J10) ∧ ((I9 79 (((5 : Int32) * x5) + x8).toNatClampNeg) = (0 : Int32) → HX12_readShut_83 E P ((4 : Int32) * (I3 77 2)) x5 x8 I9 J10)))))))))) ∧ ((I 77 2) = (12 : Int32) → CallV E mX12_fails [.ref 68, .int (5 : Int32)] SH I J (fun I16 J17 => P I16 J17)))) : CallV E mX12_readShut [.ref 68] SH I J P := by
  refine Call_of (L := [.ref 68, .retAddr 0, .retAddr 0, .retAddr 0, .retAddr 0, .retAddr 0]) ok_X12_readShut.1 rfl rfl ?_
  refine V_aload_n dX12_readShut_0 rfl ?_
  refine U_getR dX12_readShut_1 fl_X12_34 s_68 rfl ?_
  refine V_iconst (v := (2 : Int32)) dX12_readShut_4 rfl ?_
  refine U_ialdx (x := I 77 2) dX12_readShut_5 s_77 (by unfold vp_in; decide) rfl ?_
  refine V_bipush (v := (12 : Int32)) dX12_readShut_6 rfl ?_
  refine V_icmp_ne dX12_readShut_8 (fun c1 => ?_) (fun c1 => ?_)
  · have k := k.1 c1
    refine V_aload_n dX12_readShut_17 rfl ?_
    refine U_callV0 [] dX12_readShut_18 ov_X12_133 s_68 rfl ⟨rfl, rfl, rfl⟩ rfl rfl rfl (CallV_mono k (fun I3 J4 k => ?_))
    refine V_iconst (v := (4 : Int32)) dX12_readShut_21 rfl ?_
    refine V_aload_n dX12_readShut_22 rfl ?_
    refine U_getR dX12_readShut_23 fl_X12_34 s_68 rfl ?_
    refine V_iconst (v := (2 : Int32)) dX12_readShut_26 rfl ?_
    refine U_ialdx (x := I3 77 2) dX12_readShut_27 s_77 (by unfold vp_in; decide) rfl ?_
    refine V_imul dX12_readShut_28 ?_
    refine U_istore_n (L2 := [.ref 68, .int ((4 : Int32) * (I3 77 2)), .retAddr 0, .retAddr 0, .retAddr 0, .retAddr 0]) dX12_readShut_29 (by decide) rfl ?_
    refine V_aload_n dX12_readShut_30 rfl ?_
    refine V_iconst (v := (0 : Int32)) dX12_readShut_31 rfl ?_
    refine V_aload_n dX12_readShut_32 rfl ?_
    refine U_getR dX12_readShut_33 fl_X12_34 s_68 rfl ?_
    refine V_iconst (v := (0 : Int32)) dX12_readShut_36 rfl ?_
    refine U_ialdx (x := I3 77 0) dX12_readShut_37 s_77 (by unfold vp_in; decide) rfl ?_
    refine V_iconst (v := (1 : Int32)) dX12_readShut_38 rfl ?_
    refine V_isub dX12_readShut_39 ?_
    refine U_callV1 [.int (0 : Int32), .int ((I3 77 0) - (1 : Int32))] dX12_readShut_40 ov_X12_136 s_68 rfl ⟨rfl, rfl, rfl⟩ rfl rfl rfl (CallI_mono k (fun x5 I6 J7 k => ?_))
    refine U_istore_n (L2 := [.ref 68, .int ((4 : Int32) * (I3 77 2)), .int x5, .retAddr 0, .retAddr 0, .retAddr 0]) dX12_readShut_43 (by decide) rfl ?_
    refine V_aload_n dX12_readShut_44 rfl ?_
    refine V_iconst (v := (0 : Int32)) dX12_readShut_45 rfl ?_
    refine V_aload_n dX12_readShut_46 rfl ?_
    refine U_getR dX12_readShut_47 fl_X12_34 s_68 rfl ?_
    refine V_iconst (v := (0 : Int32)) dX12_readShut_50 rfl ?_
    refine U_ialdx (x := I6 77 0) dX12_readShut_51 s_77 (by unfold vp_in; decide) rfl ?_
    refine V_iconst (v := (1 : Int32)) dX12_readShut_52 rfl ?_
    refine V_isub dX12_readShut_53 ?_
    refine U_callV1 [.int (0 : Int32), .int ((I6 77 0) - (1 : Int32))] dX12_readShut_54 ov_X12_129 s_68 rfl ⟨rfl, rfl, rfl⟩ rfl rfl rfl (CallI_mono k (fun x8 I9 J10 k => ?_))
    refine U_istore_n (L2 := [.ref 68, .int ((4 : Int32) * (I3 77 2)), .int x5, .int x8, .retAddr 0, .retAddr 0]) dX12_readShut_57 (by decide) rfl ?_
    refine V_aload_n dX12_readShut_58 rfl ?_
    refine U_getI dX12_readShut_59 fl_X12_95 s_68 rfl ?_
    refine V_if_ne dX12_readShut_62 (fun c11 => ?_) (fun c11 => ?_)
    · have k := k.1 c11
      exact k
    · have k := k.2 c11
      refine V_iload_n dX12_readShut_65 rfl ?_
      refine V_iload_n dX12_readShut_66 rfl ?_
      refine V_icmp_eq dX12_readShut_67 (fun c12 => ?_) (fun c12 => ?_)
      · have k := k.1 c12
        exact k
      · have k := k.2 c12
        refine V_aload_n dX12_readShut_70 rfl ?_
        refine U_getR dX12_readShut_71 fl_X12_40 s_68 rfl ?_
        refine V_iconst (v := (5 : Int32)) dX12_readShut_74 rfl ?_
        refine V_iload_n dX12_readShut_75 rfl ?_
        refine V_imul dX12_readShut_76 ?_
        refine V_iload_n dX12_readShut_77 rfl ?_
        refine V_iadd dX12_readShut_78 ?_
        obtain ⟨hb13, k⟩ := k
        refine U_iald dX12_readShut_79 s_79 hb13 ?_
        refine V_if_ne dX12_readShut_80 (fun c14 => ?_) (fun c14 => ?_)
        · have k := k.1 c14
          exact k
        · have k := k.2 c14
          exact k
  · have k := k.2 c1
    refine V_aload_n dX12_readShut_11 rfl ?_
    refine V_iconst (v := (5 : Int32)) dX12_readShut_12 rfl ?_
    refine U_callV0 [.int (5 : Int32)] dX12_readShut_13 ov_X12_125 s_68 rfl ⟨rfl, rfl, rfl⟩ rfl rfl rfl (CallV_mono k (fun I16 J17 k => ?_))
    exact V_vret dX12_readShut_16 rfl rfl rfl ⟨_, _, rfl, k⟩
set_option maxHeartbeats 4000000 in
set_option maxRecDepth 20000 in
theorem wX12_readShut_83 {E : aE} {P : hI_ → hJ_ → Prop} {I : hI_} {J : hJ_} {v1 : Int32} {v2 : Int32} {v3 : Int32} (k : CallV E mX12_fails [.ref 68, .int (3 : Int32)] SH I J (fun I2 J3 => HX12_readShut_88 E P v1 v2 v3 I2 J3)) : HX12_readShut_83 E P v1 v2 v3 I J := by
  show V E mX12_readShut (kV SH P) 83 [.ref 68, .int v1, .int v2, .int v3, .retAddr 0, .retAddr 0] [] (SH, I, J) (0, 0)
  refine V_aload_n dX12_readShut_83 rfl ?_
  refine V_iconst (v := (3 : Int32)) dX12_readShut_84 rfl ?_
  refine U_callV0 [.int (3 : Int32)] dX12_readShut_85 ov_X12_125 s_68 rfl ⟨rfl, rfl, rfl⟩ rfl rfl rfl (CallV_mono k (fun I2 J3 k => ?_))
  exact k
set_option maxHeartbeats 4000000 in
set_option maxRecDepth 20000 in
theorem wX12_readShut_88 {E : aE} {P : hI_ → hJ_ → Prop} {I : hI_} {J : hJ_} {v1 : Int32} {v2 : Int32} {v3 : Int32} (k : CallV E mX12_next [.ref 68] SH I J (fun I2 J3 => CallI E mX12_number [.ref 68, .int (0 : Int32), .int (999 : Int32)] SH I2 J3 (fun x4 I5 J6 => CallI E mX12_number [.ref 68, .int x4, .int (999 : Int32)] SH I5 J6 (fun x7 I8 J9 => ((¬ (I8 68 3) = (0 : Int32) → P I8 J9) ∧ ((I8 68 3) = (0 : Int32) → (vp_in v1 48) ∧ (vp_in (v1 + (1 : Int32)) 48) ∧ (vp_in (v1 + (2 : Int32)) 48) ∧ (vp_in (v1 + (3 : Int32)) 48) ∧ P (upI (upI (upI (upI (upI I8 80 v1.toNatClampNeg v2) 80 ((v1 + (1 : Int32)).toNatClampNeg) v3) 80 ((v1 + (2 : Int32)).toNatClampNeg) x4) 80 ((v1 + (3 : Int32)).toNatClampNeg) x7) 77 2 ((I8 77 2) + (1 : Int32))) J9)))))) : HX12_readShut_88 E P v1 v2 v3 I J := by
  show V E mX12_readShut (kV SH P) 88 [.ref 68, .int v1, .int v2, .int v3, .retAddr 0, .retAddr 0] [] (SH, I, J) (0, 0)
  refine V_aload_n dX12_readShut_88 rfl ?_
  refine U_callV0 [] dX12_readShut_89 ov_X12_133 s_68 rfl ⟨rfl, rfl, rfl⟩ rfl rfl rfl (CallV_mono k (fun I2 J3 k => ?_))
  refine V_aload_n dX12_readShut_92 rfl ?_
  refine V_iconst (v := (0 : Int32)) dX12_readShut_93 rfl ?_
  refine V_sipush (v := (999 : Int32)) dX12_readShut_94 rfl ?_
  refine U_callV1 [.int (0 : Int32), .int (999 : Int32)] dX12_readShut_97 ov_X12_136 s_68 rfl ⟨rfl, rfl, rfl⟩ rfl rfl rfl (CallI_mono k (fun x4 I5 J6 k => ?_))
  refine U_istore (L2 := [.ref 68, .int v1, .int v2, .int v3, .int x4, .retAddr 0]) dX12_readShut_100 (by decide) rfl ?_
  refine V_aload_n dX12_readShut_102 rfl ?_
  refine V_iload dX12_readShut_103 rfl ?_
  refine V_sipush (v := (999 : Int32)) dX12_readShut_105 rfl ?_
  refine U_callV1 [.int x4, .int (999 : Int32)] dX12_readShut_108 ov_X12_136 s_68 rfl ⟨rfl, rfl, rfl⟩ rfl rfl rfl (CallI_mono k (fun x7 I8 J9 k => ?_))
  refine U_istore (L2 := [.ref 68, .int v1, .int v2, .int v3, .int x4, .int x7]) dX12_readShut_111 (by decide) rfl ?_
  refine V_aload_n dX12_readShut_113 rfl ?_
  refine U_getI dX12_readShut_114 fl_X12_95 s_68 rfl ?_
  refine V_if_ne dX12_readShut_117 (fun c10 => ?_) (fun c10 => ?_)
  · have k := k.1 c10
    exact V_vret dX12_readShut_166 rfl rfl rfl ⟨_, _, rfl, k⟩
  · have k := k.2 c10
    refine V_aload_n dX12_readShut_120 rfl ?_
    refine U_getR dX12_readShut_121 fl_X12_43 s_68 rfl ?_
    refine V_iload_n dX12_readShut_124 rfl ?_
    refine V_iload_n dX12_readShut_125 rfl ?_
    obtain ⟨hb11, k⟩ := k
    refine U_iast dX12_readShut_126 s_80 hb11 ?_
    refine V_aload_n dX12_readShut_127 rfl ?_
    refine U_getR dX12_readShut_128 fl_X12_43 s_68 rfl ?_
    refine V_iload_n dX12_readShut_131 rfl ?_
    refine V_iconst (v := (1 : Int32)) dX12_readShut_132 rfl ?_
    refine V_iadd dX12_readShut_133 ?_
    refine V_iload_n dX12_readShut_134 rfl ?_
    obtain ⟨hb12, k⟩ := k
    refine U_iast dX12_readShut_135 s_80 hb12 ?_
    refine V_aload_n dX12_readShut_136 rfl ?_
    refine U_getR dX12_readShut_137 fl_X12_43 s_68 rfl ?_
    refine V_iload_n dX12_readShut_140 rfl ?_
    refine V_iconst (v := (2 : Int32)) dX12_readShut_141 rfl ?_
    refine V_iadd dX12_readShut_142 ?_
    refine V_iload dX12_readShut_143 rfl ?_
    obtain ⟨hb13, k⟩ := k
    refine U_iast dX12_readShut_145 s_80 hb13 ?_
    refine V_aload_n dX12_readShut_146 rfl ?_
    refine U_getR dX12_readShut_147 fl_X12_43 s_68 rfl ?_
    refine V_iload_n dX12_readShut_150 rfl ?_
    refine V_iconst (v := (3 : Int32)) dX12_readShut_151 rfl ?_
    refine V_iadd dX12_readShut_152 ?_
    refine V_iload dX12_readShut_153 rfl ?_
    obtain ⟨hb14, k⟩ := k
    refine U_iast dX12_readShut_155 s_80 hb14 ?_
    refine V_aload_n dX12_readShut_156 rfl ?_
    refine U_getR dX12_readShut_157 fl_X12_34 s_68 rfl ?_
    refine V_iconst (v := (2 : Int32)) dX12_readShut_160 rfl ?_
    refine V_dup2 dX12_readShut_161 ?_
    refine U_ialdx (x := I8 77 2) dX12_readShut_162 s_77 (by unfold vp_in; decide) rfl ?_
    refine V_iconst (v := (1 : Int32)) dX12_readShut_163 rfl ?_
    refine V_iadd dX12_readShut_164 ?_
    refine U_iast dX12_readShut_165 s_77 (by unfold vp_in; decide) ?_
    exact V_vret dX12_readShut_166 rfl rfl rfl ⟨_, _, rfl, k⟩
theorem shut_b88 {E : aE} {P : hI_ → hJ_ → Prop} {I : hI_} {J : hJ_} {c : Nat} {v1 v2 v3 : Int32} (h : I 68 3 = nI c) (hc : 0 < c) (hc2 : c < 100) (k : P I J) : HX12_readShut_88 E P v1 v2 v3 I J := wX12_readShut_88 (tX12_nextN h hc hc2 (tX12_numberN h hc hc2 (tX12_numberN h hc hc2 ⟨fun _ => k, fun z => absurd z (wr_ne h hc hc2)⟩)))
theorem tX12_readShut {E : aE} {P : hI_ → hJ_ → Prop} {n : Nat} {B : Nat → Nat} {I : hI_} {J : hJ_} {k0 : Nat} {D : Nat → Nat} (h : MB n B I) (hk : k0 ≤ n) (hT : MT n B k0 I) (h4 : tK n B k0 ≠ 4) (hD : MD D I) (ok : DOK D) (kk : LMc n B I J (lnShut n B k0 (tE n B k0) D) P) : CallV E mX12_readShut [.ref 68] SH I J P := by
  have o1 := ok.1
  have he := (tE_b (B := B) hk).2.1
  have he2 := (tE_b (B := B) he).2.1
  have he3 := (tE_b (B := B) he2).2.1
  have he4 := (tE_b (B := B) he3).2.1
  unfold lnShut at kk
  have hT0 := hT.1
  have hw := (hT.2.2.2 h4).1
  generalize hk1 : tE n B k0 = k1 at *
  generalize hk2 : tE n B k1 = k2 at *
  generalize hk3 : tE n B k2 = k3 at *
  generalize hk4 : tE n B k3 = k4 at *
  have cl : ∀ k lo hx, cN_ n B k lo hx ≠ 0 → 0 < cN_ n B k lo hx ∧ cN_ n B k lo hx < 100 := fun k lo hx y => by
    have := cN3 (n := n) (B := B) (k := k) (lo := lo) (hx := hx)
    omega
  have e12 : (nI (D 2) = 12) ↔ D 2 = 12 := nI_eqI (b := 12) (by omega) (by omega)
  refine wX12_readShut ?_
  rw [hD.1 2 (by omega)]
  refine ⟨fun z0 => ?_, fun z0 => ?_⟩
  · have z0 : ¬ 12 ≤ D 2 := fun y => z0 (e12.mpr (by omega))
    refine tX12_nextY h hw hT0 he (fun I1 f1 hT1 => ?_)
    have hD1 := MD_M hD f1
    rw [hD1.1 0 (by omega), hD1.1 2 (by omega)]
    refine tX12_numberY (lo := 0) (hx := D 0) (MB_fr h f1) he hT1 rfl (by omega) (by omega) (fun c1 I2 f2 hT2 => ?_) (fun c1 I2 f2 a3 a4 => ?_)
    · rw [hk2] at hT2
      have hD2 := MD_M hD1 f2
      have f12 := frM_tr f1 f2
      rw [hD2.1 0 (by omega)]
      have d1 := cN0.mp c1
      refine tX12_hereY (lo := 0) (hx := D 0) hT2 rfl (by omega) (by omega) (fun c2 => ?_) (fun c2 I3 f3 a3 a4 => ?_)
      · have d2 := cN0.mp c2
        have va : tV n B k1 < 5 := by omega
        have vb : tV n B k2 < 5 := by omega
        have w2 := (hT2.2.2.2 (by omega)).1
        have wab := ok.2.2.2.1 _ _ va vb
        have e5 : (5 : Int32) * nI (tV n B k1) + nI (tV n B k2) = nI (5 * tV n B k1 + tV n B k2) := by rw [show (5 : Int32) = nI 5 from rfl, pk_mul, nI_add]
        have em : (4 : Int32) * nI (D 2) = nI (4 * D 2) := by rw [show (4 : Int32) = nI 4 from rfl, pk_mul]
        have bad3 : D (40 + 5 * tV n B k1 + tV n B k2) = 0 → HX12_readShut_83 E P ((4 : Int32) * nI (D 2)) (nI (tV n B k1)) (nI (tV n B k2)) I2 J := fun y => by
          have ff := mfail_st (c := 3) (frQ_M f12) hT2
          exact wX12_readShut_83 (tX12_failsY w2 (shut_b88 ff.2.1 (by omega) (by omega) (MLB kk (by unfold lnShut4; rw [if_neg z0, if_pos c1, if_pos c2, if_pos y]) (by omega) ff.1 ff.2.1 ff.2.2)))
        refine ⟨fun z => absurd w2 z, fun _ => ⟨fun z => bad3 ?_, fun z => ?_⟩⟩
        · have z := (nI_eqI (by omega) (by omega)).mp z
          rcases Nat.eq_zero_or_pos (D (40 + 5 * tV n B k1 + tV n B k2)) with w | w
          · exact w
          · exact absurd z (wab.2.2 w).1
        · rw [e5, nI_clamp (by omega), hD2.2.2.1 _ (by omega), show 40 + (5 * tV n B k1 + tV n B k2) = 40 + 5 * tV n B k1 + tV n B k2 by omega]
          have e0 : (nI (D (40 + 5 * tV n B k1 + tV n B k2)) = 0) ↔ D (40 + 5 * tV n B k1 + tV n B k2) = 0 := nI_eqI (b := 0) (by omega) (by omega)
          refine ⟨vp_in_nI (by omega) (by omega), fun y => ?_, fun y => bad3 (e0.mp y)⟩
          have y : ¬ D (40 + 5 * tV n B k1 + tV n B k2) = 0 := fun w => y (e0.mpr w)
          rw [em]
          refine wX12_readShut_88 (tX12_nextY (MB_fr h f12) w2 hT2.1 (by rw [hk3]; exact he3) (fun I4 f4 hT4 => ?_))
          rw [hk3] at hT4
          have hD4 := MD_M hD2 f4
          have f14 := frM_tr f12 f4
          refine tX12_numberY (lo := 0) (hx := 1000) (MB_fr h f14) he3 hT4 rfl (by omega) (by omega) (fun c3 I5 f5 hT5 => ?_) (fun c3 I5 f5 a3 a4 => ?_)
          · rw [hk4] at hT5
            have hD5 := MD_M hD4 f5
            have f15 := frM_tr f14 f5
            have d3 := cN0.mp c3
            refine tX12_numberY (lo := tV n B k3) (hx := 1000) (MB_fr h f15) he4 hT5 rfl (by omega) (by omega) (fun c4 I6 f6 hT6 => ?_) (fun c4 I6 f6 a3 a4 => ?_)
            · have hD6 := MD_M hD5 f6
              have f16 := frM_tr f15 f6
              have hr : lnShut4 n B k0 k1 k2 k3 k4 D = (0, 0, tE n B k4, dShut D (tV n B k1) (tV n B k2) (tV n B k3) (tV n B k4)) := by unfold lnShut4; rw [if_neg z0, if_pos c1, if_pos c2, if_neg y, if_pos c3, if_pos c4]
              by_cases t4 : tK n B (tE n B k4) = 4
              · have a3 := (hT6.2.2.1 t4).1
                refine ⟨fun _ => MLG kk hr (frQ_M f16) hT6 (fun w => absurd t4 w), fun w => absurd w (wr_ne (c := 1) a3 (by omega) (by omega))⟩
              · have a3 := (hT6.2.2.2 t4).1
                refine ⟨fun w => absurd a3 w, fun _ => ?_⟩
                rw [show (1 : Int32) = nI 1 from rfl, show (2 : Int32) = nI 2 from rfl, show (3 : Int32) = nI 3 from rfl, nI_add, nI_add, nI_add, nI_clamp (by omega), nI_clamp (by omega), nI_clamp (by omega), nI_clamp (by omega), hD6.1 2 (by omega), nI_add]
                refine ⟨vp_in_nI (by omega) (by omega), vp_in_nI (by omega) (by omega), vp_in_nI (by omega) (by omega), vp_in_nI (by omega) (by omega), MLG kk hr (frQ_tr (frQ_M f16) (frQ_tr (frQ_up (by omega)) (frQ_tr (frQ_up (by omega)) (frQ_tr (frQ_up (by omega)) (frQ_tr (frQ_up (by omega)) (frQ_up (by omega))))))) (MT_up (MT_up (MT_up (MT_up (MT_up hT6 (by omega)) (by omega)) (by omega)) (by omega)) (by omega)) (fun _ => ?_)⟩
                obtain ⟨b1, b2, b3, b4, b5⟩ := hD6
                unfold dShut
                generalize tV n B k1 = a at *
                generalize tV n B k2 = b at *
                generalize tV n B k3 = f at *
                generalize tV n B k4 = t at *
                generalize hG : upN (upN (upN (upN (upN D (100 + 4 * D 2) a) (101 + 4 * D 2) b) (102 + 4 * D 2) f) (103 + 4 * D 2) t) 2 (D 2 + 1) = G
                have o : ∀ j, j ≠ 2 → j < 100 + 4 * D 2 → G j = D j := fun j h1 h2 => by rw [← hG, upN_o h1, upN_o (by omega), upN_o (by omega), upN_o (by omega), upN_o (by omega)]
                have g2' : G 2 = D 2 + 1 := by rw [← hG]; exact upN_e
                have g0 : G (100 + 4 * D 2) = a := by rw [← hG, upN_o (by omega), upN_o (by omega), upN_o (by omega), upN_o (by omega), upN_e]
                have g1 : G (101 + 4 * D 2) = b := by rw [← hG, upN_o (by omega), upN_o (by omega), upN_o (by omega), upN_e]
                have g2 : G (102 + 4 * D 2) = f := by rw [← hG, upN_o (by omega), upN_o (by omega), upN_e]
                have g3 : G (103 + 4 * D 2) = t := by rw [← hG, upN_o (by omega), upN_e]
                refine ⟨fun j hj => ?_, fun i hi => ?_, fun q hq => ?_, fun j hj => ?_, ?_⟩
                · rw [upI_at]
                  by_cases w : j = 2
                  · rw [if_pos ⟨rfl, w⟩, w, g2']
                  · rw [if_neg (fun u => w u.2), upI_at, if_neg (by omega), upI_at, if_neg (by omega), upI_at, if_neg (by omega), upI_at, if_neg (by omega), o j w (by omega)]; exact b1 j hj
                · rw [o 0 (by omega) (by omega)] at hi
                  rw [upI_at, if_neg (by omega), upI_at, if_neg (by omega), upI_at, if_neg (by omega), upI_at, if_neg (by omega), upI_at, if_neg (by omega), o _ (by omega) (by omega)]; exact b2 i hi
                · rw [upI_at, if_neg (by omega), upI_at, if_neg (by omega), upI_at, if_neg (by omega), upI_at, if_neg (by omega), upI_at, if_neg (by omega), o _ (by omega) (by omega)]; exact b3 q hq
                · rw [g2'] at hj
                  rw [upI_at, if_neg (by omega), upI_at]
                  by_cases w3 : j = 4 * D 2 + 3
                  · rw [if_pos ⟨rfl, w3⟩, w3, show 100 + (4 * D 2 + 3) = 103 + 4 * D 2 by omega, g3]
                  · rw [if_neg (fun u => w3 u.2), upI_at]
                    by_cases w2 : j = 4 * D 2 + 2
                    · rw [if_pos ⟨rfl, w2⟩, w2, show 100 + (4 * D 2 + 2) = 102 + 4 * D 2 by omega, g2]
                    · rw [if_neg (fun u => w2 u.2), upI_at]
                      by_cases w1 : j = 4 * D 2 + 1
                      · rw [if_pos ⟨rfl, w1⟩, w1, show 100 + (4 * D 2 + 1) = 101 + 4 * D 2 by omega, g1]
                      · rw [if_neg (fun u => w1 u.2), upI_at]
                        by_cases w0 : j = 4 * D 2
                        · rw [if_pos ⟨rfl, w0⟩, w0, g0]
                        · rw [if_neg (fun u => w0 u.2), o _ (by omega) (by omega)]; exact b4 j (by omega)
                · rw [upI_at, if_neg (by omega), upI_at, if_neg (by omega), upI_at, if_neg (by omega), upI_at, if_neg (by omega), upI_at, if_neg (by omega), o 8 (by omega) (by omega), o 9 (by omega) (by omega), o 10 (by omega) (by omega)]; exact b5
            · have cc := cl _ _ _ c4
              exact ⟨fun _ => MLB kk (by unfold lnShut4; rw [if_neg z0, if_pos c1, if_pos c2, if_neg y, if_pos c3, if_neg c4]) c4 (frQ_M (frM_tr f15 f6)) a3 a4, fun w => absurd w (wr_ne a3 cc.1 cc.2)⟩
          · have cc := cl _ _ _ c3
            exact tX12_numberN a3 cc.1 cc.2 ⟨fun _ => MLB kk (by unfold lnShut4; rw [if_neg z0, if_pos c1, if_pos c2, if_neg y, if_neg c3]) c3 (frQ_M (frM_tr f14 f5)) a3 a4, fun w => absurd w (wr_ne a3 cc.1 cc.2)⟩
      · have cc := cl _ _ _ c2
        exact ⟨fun _ => shut_b88 a3 cc.1 cc.2 (MLB kk (by unfold lnShut4; rw [if_neg z0, if_pos c1, if_neg c2]) c2 (frQ_M (frM_tr f12 f3)) a3 a4), fun w => absurd w (wr_ne a3 cc.1 cc.2)⟩
    · have cc := cl _ _ _ c1
      refine tX12_hereN a3 cc.1 cc.2 ⟨fun _ => shut_b88 a3 cc.1 cc.2 (MLB kk (by unfold lnShut4; rw [if_neg z0, if_neg c1]) c1 (frQ_M (frM_tr f1 f2)) a3 a4), fun w => absurd w (wr_ne a3 cc.1 cc.2)⟩
  · have z0 := e12.mp z0
    have ff := mfail_st (c := 5) (frQ_M (frM_rf (I := I))) hT
    exact tX12_failsY hw (MLB kk (by unfold lnShut4; rw [if_pos (by omega)]) (by omega) ff.1 ff.2.1 ff.2.2)
