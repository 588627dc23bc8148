set_option maxHeartbeats 4000000 in
set_option maxRecDepth 20000 in
theorem wX11_deal {E : aE} {P : Int32 → hI_ → hJ_ → Prop} {I : hI_} {J : hJ_} {a0 : Int32} {a1 : Int32} {a2 : Int32} {a3 : Int32} (k : ((¬ (0 ≤ a0 ∧ a0 ≤ I 3 6 - 1) → P (-1 : Int32) I J) ∧ ((0 ≤ a0 ∧ a0 ≤ I 3 6 - 1) → ((¬ (0 ≤ a1 ∧ a1 ≤ I 24 3 - 1) → P (-1 : Int32) I J) ∧ ((0 ≤ a1 ∧ a1 ≤ I 24 3 - 1) → ((¬ (0 ≤ a2 ∧ a2 ≤ 999) → P (-1 : Int32) I J) ∧ ((0 ≤ a2 ∧ a2 ≤ 999) → ((((1 : Int32) ≤ a3 ∧ a3 ≤ (99 : Int32)) → (rok I 24 8 12) ∧ ((¬ (rat I 24 25 a1 (0 : Int32)) = a0 → (rok I 24 8 12) ∧ CallI E mX2_arrival [.ref 18, .int (rat I 24 25 a1 (0 : Int32)), .int a0, .int (rat I 24 25 a1 (1 : Int32))] SH I J (fun x8 I9 J10 => ((x8 ≤ a2 → (((0 : Int32) ≤ (rgr I9 26) → (rok (rgrI I9 26) 26 5 24) ∧ (rok (rput (rgrI I9 26) 26 27 (rgr I9 26) (0 : Int32) a0) 26 5 24) ∧ (rok (rput (rput (rgrI I9 26) 26 27 (rgr I9 26) (0 : Int32) a0) 26 27 (rgr I9 26) (1 : Int32) a1) 26 5 24) ∧ (rok (rput (rput (rput (rgrI I9 26) 26 27 (rgr I9 26) (0 : Int32) a0) 26 27 (rgr I9 26) (1 : Int32) a1) 26 27 (rgr I9 26) (2 : Int32) a2) 26 5 24) ∧ CallI E mX2_arrival [.ref 18, .int a0, .int (rat I 24 25 a1 (0 : Int32)), .int a2] SH (rput (rput (rput (rput (rgrI I9 26) 26 27 (rgr I9 26) (0 : Int32) a0) 26 27 (rgr I9 26) (1 : Int32) a1) 26 27 (rgr I9 26) (2 : Int32) a2) 26 27 (rgr I9 26) (3 : Int32) a3) J10 (fun x17 I18 J19 => (rok I18 26 5 24) ∧ P (rgr I9 26) (rput I18 26 27 (rgr I9 26) (4 : Int32) x17) J19)) ∧ (¬ ((0 : Int32) ≤ (rgr I9 26)) → P (-3 : Int32) (rgrI I9 26) J10))) ∧ (¬ (x8 ≤ a2) → P (-2 : Int32) I9 J10)))) ∧ ((rat I 24 25 a1 (0 : Int32)) = a0 → P (-1 : Int32) I J))) ∧ (¬ (((1 : Int32) ≤ a3 ∧ a3 ≤ (99 : Int32))) → P (-1 : Int32) I J))))))))) : CallI E mX11_deal [.ref 0, .int a0, .int a1, .int a2, .int a3] SH I J P := by
  refine Call_of (L := [.ref 0, .int a0, .int a1, .int a2, .int a3, .retAddr 0, .retAddr 0, .retAddr 0]) ok_X11_deal.1 rfl rfl ?_
  refine V_aload_n dX11_deal_0 rfl ?_
  refine V_iload_n dX11_deal_1 rfl ?_
  refine U_callV1 [.int a0] dX11_deal_2 ov_X11_148 s_0 rfl ⟨rfl, rfl, rfl⟩ rfl rfl rfl (tX11_isPlace ?_)
  refine U_ifb_eq dX11_deal_5 (fun c1 => ?_) (fun c1 => ?_)
  · have k := k.1 c1
    refine V_iconst (v := (-1 : Int32)) dX11_deal_34 rfl ?_
    exact V_iret dX11_deal_35 ⟨_, rfl, rfl⟩ rfl rfl ⟨_, _, _, rfl, rfl, k⟩
  · have k := k.2 c1
    refine V_aload_n dX11_deal_8 rfl ?_
    refine V_iload_n dX11_deal_9 rfl ?_
    refine U_callV1 [.int a1] dX11_deal_10 ov_X11_206 s_0 rfl ⟨rfl, rfl, rfl⟩ rfl rfl rfl (tX11_isCall ?_)
    refine U_ifb_eq dX11_deal_13 (fun c2 => ?_) (fun c2 => ?_)
    · have k := k.1 c2
      refine V_iconst (v := (-1 : Int32)) dX11_deal_34 rfl ?_
      exact V_iret dX11_deal_35 ⟨_, rfl, rfl⟩ rfl rfl ⟨_, _, _, rfl, rfl, k⟩
    · have k := k.2 c2
      refine V_iload_n dX11_deal_16 rfl ?_
      refine U_callS1 [.int a2] dX11_deal_17 os_X11_159 ⟨rfl, rfl, rfl⟩ rfl rfl rfl (tX11_isMinute ?_)
      refine U_ifb_eq dX11_deal_20 (fun c3 => ?_) (fun c3 => ?_)
      · have k := k.1 c3
        refine V_iconst (v := (-1 : Int32)) dX11_deal_34 rfl ?_
        exact V_iret dX11_deal_35 ⟨_, rfl, rfl⟩ rfl rfl ⟨_, _, _, rfl, rfl, k⟩
      · have k := k.2 c3
        refine V_iload dX11_deal_23 rfl ?_
        refine V_iconst (v := (1 : Int32)) dX11_deal_25 rfl ?_
        refine V_bipush (v := (99 : Int32)) dX11_deal_26 rfl ?_
        refine U_callS1 [.int a3, .int (1 : Int32), .int (99 : Int32)] dX11_deal_28 os_X11_104 ⟨rfl, rfl, rfl⟩ rfl rfl rfl (tX11_within ?_)
        refine U_ifb_ne dX11_deal_31 (fun c4 => ?_) (fun c4 => ?_)
        · have k := k.1 c4
          refine V_aload_n dX11_deal_36 rfl ?_
          refine U_getR dX11_deal_37 fl_X11_47 s_0 rfl ?_
          refine U_getR dX11_deal_40 fl_X11_203 s_21 rfl ?_
          refine V_iload_n dX11_deal_43 rfl ?_
          refine V_iconst (v := (0 : Int32)) dX11_deal_44 rfl ?_
          obtain ⟨hp5, k⟩ := k
          refine U_callV1 [.int a1, .int (0 : Int32)] dX11_deal_45 ov_X11_209 s_24 rfl ⟨rfl, rfl, rfl⟩ rfl rfl rfl (tX5_at s_24 s_25 (by decide) hp5 ?_)
          refine U_istore (L2 := [.ref 0, .int a0, .int a1, .int a2, .int a3, .int (rat I 24 25 a1 (0 : Int32)), .retAddr 0, .retAddr 0]) dX11_deal_48 (by decide) rfl ?_
          refine V_iload dX11_deal_50 rfl ?_
          refine V_iload_n dX11_deal_52 rfl ?_
          refine V_icmp_ne dX11_deal_53 (fun c6 => ?_) (fun c6 => ?_)
          · have k := k.1 c6
            refine V_aload_n dX11_deal_58 rfl ?_
            refine U_getR dX11_deal_59 fl_X11_40 s_0 rfl ?_
            refine V_iload dX11_deal_62 rfl ?_
            refine V_iload_n dX11_deal_64 rfl ?_
            refine V_aload_n dX11_deal_65 rfl ?_
            refine U_getR dX11_deal_66 fl_X11_47 s_0 rfl ?_
            refine U_getR dX11_deal_69 fl_X11_203 s_21 rfl ?_
            refine V_iload_n dX11_deal_72 rfl ?_
            refine V_iconst (v := (1 : Int32)) dX11_deal_73 rfl ?_
            obtain ⟨hp7, k⟩ := k
            refine U_callV1 [.int a1, .int (1 : Int32)] dX11_deal_74 ov_X11_209 s_24 rfl ⟨rfl, rfl, rfl⟩ rfl rfl rfl (tX5_at s_24 s_25 (by decide) hp7 ?_)
            refine U_callV1 [.int (rat I 24 25 a1 (0 : Int32)), .int a0, .int (rat I 24 25 a1 (1 : Int32))] dX11_deal_77 ov_X11_162 s_18 rfl ⟨rfl, rfl, rfl⟩ rfl rfl rfl (CallI_mono k (fun x8 I9 J10 k => ?_))
            refine V_iload_n dX11_deal_80 rfl ?_
            refine V_icmp_le dX11_deal_81 (fun c11 => ?_) (fun c11 => ?_)
            · have k := k.1 c11
              refine V_aload_n dX11_deal_87 rfl ?_
              refine U_getR dX11_deal_88 fl_X11_47 s_0 rfl ?_
              refine U_getR dX11_deal_91 fl_X11_228 s_21 rfl ?_
              refine U_astore (L2 := [.ref 0, .int a0, .int a1, .int a2, .int a3, .int (rat I 24 25 a1 (0 : Int32)), .ref 26, .retAddr 0]) dX11_deal_94 (by decide) rfl ?_
              refine V_aload dX11_deal_96 rfl ?_
              refine U_callV1 [] dX11_deal_98 ov_X11_180 s_26 rfl ⟨rfl, rfl, rfl⟩ rfl rfl rfl (tX5_grow s_26 s_27 ?_)
              refine U_istore (L2 := [.ref 0, .int a0, .int a1, .int a2, .int a3, .int (rat I 24 25 a1 (0 : Int32)), .ref 26, .int (rgr I9 26)]) dX11_deal_101 (by decide) rfl ?_
              refine V_iload dX11_deal_103 rfl ?_
              refine V_if_ge dX11_deal_105 (fun c12 => ?_) (fun c12 => ?_)
              · have k := k.1 c12
                refine V_aload dX11_deal_111 rfl ?_
                refine V_iload dX11_deal_113 rfl ?_
                refine V_iconst (v := (0 : Int32)) dX11_deal_115 rfl ?_
                refine V_iload_n dX11_deal_116 rfl ?_
                obtain ⟨hp13, k⟩ := k
                refine U_callV0 [.int (rgr I9 26), .int (0 : Int32), .int a0] dX11_deal_117 ov_X11_185 s_26 rfl ⟨rfl, rfl, rfl⟩ rfl rfl rfl (tX5_put s_26 s_27 (by decide) hp13 ?_)
                refine V_aload dX11_deal_120 rfl ?_
                refine V_iload dX11_deal_122 rfl ?_
                refine V_iconst (v := (1 : Int32)) dX11_deal_124 rfl ?_
                refine V_iload_n dX11_deal_125 rfl ?_
                obtain ⟨hp14, k⟩ := k
                refine U_callV0 [.int (rgr I9 26), .int (1 : Int32), .int a1] dX11_deal_126 ov_X11_185 s_26 rfl ⟨rfl, rfl, rfl⟩ rfl rfl rfl (tX5_put s_26 s_27 (by decide) hp14 ?_)
                refine V_aload dX11_deal_129 rfl ?_
                refine V_iload dX11_deal_131 rfl ?_
                refine V_iconst (v := (2 : Int32)) dX11_deal_133 rfl ?_
                refine V_iload_n dX11_deal_134 rfl ?_
                obtain ⟨hp15, k⟩ := k
                refine U_callV0 [.int (rgr I9 26), .int (2 : Int32), .int a2] dX11_deal_135 ov_X11_185 s_26 rfl ⟨rfl, rfl, rfl⟩ rfl rfl rfl (tX5_put s_26 s_27 (by decide) hp15 ?_)
                refine V_aload dX11_deal_138 rfl ?_
                refine V_iload dX11_deal_140 rfl ?_
                refine V_iconst (v := (3 : Int32)) dX11_deal_142 rfl ?_
                refine V_iload dX11_deal_143 rfl ?_
                obtain ⟨hp16, k⟩ := k
                refine U_callV0 [.int (rgr I9 26), .int (3 : Int32), .int a3] dX11_deal_145 ov_X11_185 s_26 rfl ⟨rfl, rfl, rfl⟩ rfl rfl rfl (tX5_put s_26 s_27 (by decide) hp16 ?_)
                refine V_aload dX11_deal_148 rfl ?_
                refine V_iload dX11_deal_150 rfl ?_
                refine V_iconst (v := (4 : Int32)) dX11_deal_152 rfl ?_
                refine V_aload_n dX11_deal_153 rfl ?_
                refine U_getR dX11_deal_154 fl_X11_40 s_0 rfl ?_
                refine V_iload_n dX11_deal_157 rfl ?_
                refine V_iload dX11_deal_158 rfl ?_
                refine V_iload_n dX11_deal_160 rfl ?_
                refine U_callV1 [.int a0, .int (rat I 24 25 a1 (0 : Int32)), .int a2] dX11_deal_161 ov_X11_162 s_18 rfl ⟨rfl, rfl, rfl⟩ rfl rfl rfl (CallI_mono k (fun x17 I18 J19 k => ?_))
                obtain ⟨hp20, k⟩ := k
                refine U_callV0 [.int (rgr I9 26), .int (4 : Int32), .int x17] dX11_deal_164 ov_X11_185 s_26 rfl ⟨rfl, rfl, rfl⟩ rfl rfl rfl (tX5_put s_26 s_27 (by decide) hp20 ?_)
                refine V_iload dX11_deal_167 rfl ?_
                exact V_iret dX11_deal_169 ⟨_, rfl, rfl⟩ rfl rfl ⟨_, _, _, rfl, rfl, k⟩
              · have k := k.2 c12
                refine V_bipush (v := (-3 : Int32)) dX11_deal_108 rfl ?_
                exact V_iret dX11_deal_110 ⟨_, rfl, rfl⟩ rfl rfl ⟨_, _, _, rfl, rfl, k⟩
            · have k := k.2 c11
              refine V_bipush (v := (-2 : Int32)) dX11_deal_84 rfl ?_
              exact V_iret dX11_deal_86 ⟨_, rfl, rfl⟩ rfl rfl ⟨_, _, _, rfl, rfl, k⟩
          · have k := k.2 c6
            refine V_iconst (v := (-1 : Int32)) dX11_deal_56 rfl ?_
            exact V_iret dX11_deal_57 ⟨_, rfl, rfl⟩ rfl rfl ⟨_, _, _, rfl, rfl, k⟩
        · have k := k.2 c4
          refine V_iconst (v := (-1 : Int32)) dX11_deal_34 rfl ?_
          exact V_iret dX11_deal_35 ⟨_, rfl, rfl⟩ rfl rfl ⟨_, _, _, rfl, rfl, k⟩
set_option maxHeartbeats 4000000 in
set_option maxRecDepth 20000 in
theorem wX12_deal {E : aE} {P : Int32 → hI_ → hJ_ → Prop} {I : hI_} {J : hJ_} {a0 : Int32} {a1 : Int32} {a2 : Int32} {a3 : Int32} (k : ((¬ (0 ≤ a0 ∧ a0 ≤ I 73 0 - 1) → P (-1 : Int32) I J) ∧ ((0 ≤ a0 ∧ a0 ≤ I 73 0 - 1) → ((¬ (0 ≤ a1 ∧ a1 ≤ I 82 281 - 1) → P (-1 : Int32) I J) ∧ ((0 ≤ a1 ∧ a1 ≤ I 82 281 - 1) → ((¬ (0 ≤ a2 ∧ a2 ≤ 999) → P (-1 : Int32) I J) ∧ ((0 ≤ a2 ∧ a2 ≤ 999) → ((¬ ((1 : Int32) ≤ a3 ∧ a3 ≤ (99 : Int32)) → P (-1 : Int32) I J) ∧ (((1 : Int32) ≤ a3 ∧ a3 ≤ (99 : Int32)) → (inC a1 (0 : Int32)) ∧ ((¬ (its I a1 (0 : Int32)) = a0 → CallI E mX12_seenBy [.ref 68, .int a1, .int a0, .int (0 : Int32)] SH I J (fun x7 I8 J9 => ((x7 ≤ a2 → ((¬ (I8 82 282) = (24 : Int32) → (vp_in ((170 : Int32) + ((4 : Int32) * (I8 82 282))) 900) ∧ (vp_in (((170 : Int32) + ((4 : Int32) * (I8 82 282))) + (1 : Int32)) 900) ∧ (vp_in (((170 : Int32) + ((4 : Int32) * (I8 82 282))) + (2 : Int32)) 900) ∧ (vp_in (((170 : Int32) + ((4 : Int32) * (I8 82 282))) + (3 : Int32)) 900) ∧ P (((upI (upI (upI (upI (upI I8 82 (((170 : Int32) + ((4 : Int32) * (I8 82 282))).toNatClampNeg) a0) 82 ((((170 : Int32) + ((4 : Int32) * (I8 82 282))) + (1 : Int32)).toNatClampNeg) a1) 82 ((((170 : Int32) + ((4 : Int32) * (I8 82 282))) + (2 : Int32)).toNatClampNeg) a2) 82 ((((170 : Int32) + ((4 : Int32) * (I8 82 282))) + (3 : Int32)).toNatClampNeg) a3) 82 282 (((upI (upI (upI (upI I8 82 (((170 : Int32) + ((4 : Int32) * (I8 82 282))).toNatClampNeg) a0) 82 ((((170 : Int32) + ((4 : Int32) * (I8 82 282))) + (1 : Int32)).toNatClampNeg) a1) 82 ((((170 : Int32) + ((4 : Int32) * (I8 82 282))) + (2 : Int32)).toNatClampNeg) a2) 82 ((((170 : Int32) + ((4 : Int32) * (I8 82 282))) + (3 : Int32)).toNatClampNeg) a3) 82 282) + (1 : Int32))) 82 282) - (1 : Int32)) (upI (upI (upI (upI (upI I8 82 (((170 : Int32) + ((4 : Int32) * (I8 82 282))).toNatClampNeg) a0) 82 ((((170 : Int32) + ((4 : Int32) * (I8 82 282))) + (1 : Int32)).toNatClampNeg) a1) 82 ((((170 : Int32) + ((4 : Int32) * (I8 82 282))) + (2 : Int32)).toNatClampNeg) a2) 82 ((((170 : Int32) + ((4 : Int32) * (I8 82 282))) + (3 : Int32)).toNatClampNeg) a3) 82 282 (((upI (upI (upI (upI I8 82 (((170 : Int32) + ((4 : Int32) * (I8 82 282))).toNatClampNeg) a0) 82 ((((170 : Int32) + ((4 : Int32) * (I8 82 282))) + (1 : Int32)).toNatClampNeg) a1) 82 ((((170 : Int32) + ((4 : Int32) * (I8 82 282))) + (2 : Int32)).toNatClampNeg) a2) 82 ((((170 : Int32) + ((4 : Int32) * (I8 82 282))) + (3 : Int32)).toNatClampNeg) a3) 82 282) + (1 : Int32))) J9) ∧ ((I8 82 282) = (24 : Int32) → P (-3 : Int32) I8 J9))) ∧ (¬ (x7 ≤ a2) → P (-2 : Int32) I8 J9)))) ∧ ((its I a1 (0 : Int32)) = a0 → P (-1 : Int32) I J))))))))))) : CallI E mX12_deal [.ref 68, .int a0, .int a1, .int a2, .int a3] SH I J P := by
  refine Call_of (L := [.ref 68, .int a0, .int a1, .int a2, .int a3, .retAddr 0]) ok_X12_deal.1 rfl rfl ?_
  refine V_aload_n dX12_deal_0 rfl ?_
  refine V_iload_n dX12_deal_1 rfl ?_
  refine U_callV1 [.int a0] dX12_deal_2 ov_X12_167 s_68 rfl ⟨rfl, rfl, rfl⟩ rfl rfl rfl (tX12_isPlace ?_)
  refine U_ifb_eq dX12_deal_5 (fun c1 => ?_) (fun c1 => ?_)
  · have k := k.1 c1
    refine V_iconst (v := (-1 : Int32)) dX12_deal_46 rfl ?_
    exact V_iret dX12_deal_47 ⟨_, rfl, rfl⟩ rfl rfl ⟨_, _, _, rfl, rfl, k⟩
  · have k := k.2 c1
    refine V_aload_n dX12_deal_8 rfl ?_
    refine V_iload_n dX12_deal_9 rfl ?_
    refine U_callV1 [.int a1] dX12_deal_10 ov_X12_207 s_68 rfl ⟨rfl, rfl, rfl⟩ rfl rfl rfl (tX12_isCall ?_)
    refine U_ifb_eq dX12_deal_13 (fun c2 => ?_) (fun c2 => ?_)
    · have k := k.1 c2
      refine V_iconst (v := (-1 : Int32)) dX12_deal_46 rfl ?_
      exact V_iret dX12_deal_47 ⟨_, rfl, rfl⟩ rfl rfl ⟨_, _, _, rfl, rfl, k⟩
    · have k := k.2 c2
      refine V_iload_n dX12_deal_16 rfl ?_
      refine U_callS1 [.int a2] dX12_deal_17 os_X12_179 ⟨rfl, rfl, rfl⟩ rfl rfl rfl (tX12_isMinute ?_)
      refine U_ifb_eq dX12_deal_20 (fun c3 => ?_) (fun c3 => ?_)
      · have k := k.1 c3
        refine V_iconst (v := (-1 : Int32)) dX12_deal_46 rfl ?_
        exact V_iret dX12_deal_47 ⟨_, rfl, rfl⟩ rfl rfl ⟨_, _, _, rfl, rfl, k⟩
      · have k := k.2 c3
        refine V_iload dX12_deal_23 rfl ?_
        refine V_i2l dX12_deal_25 ?_
        refine V_lconst (v := (1 : Int64)) dX12_deal_26 rfl ?_
        refine V_ldc2_w (v := (99 : Int64)) dX12_deal_27 (gt_6 69 rfl rfl) ?_
        refine U_callS1 [.long a3.toInt64, .long (1 : Int64), .long (99 : Int64)] dX12_deal_30 os_X12_91 ⟨rfl, rfl, rfl⟩ rfl rfl rfl (tX12_in32 (v := a3) (lo := (1 : Int32)) (hi := (99 : Int32)) rfl (by decide) (by decide) ?_)
        refine U_ifb_eq dX12_deal_33 (fun c4 => ?_) (fun c4 => ?_)
        · have k := k.1 c4
          refine V_iconst (v := (-1 : Int32)) dX12_deal_46 rfl ?_
          exact V_iret dX12_deal_47 ⟨_, rfl, rfl⟩ rfl rfl ⟨_, _, _, rfl, rfl, k⟩
        · have k := k.2 c4
          refine V_aload_n dX12_deal_36 rfl ?_
          refine V_iload_n dX12_deal_37 rfl ?_
          refine V_iconst (v := (0 : Int32)) dX12_deal_38 rfl ?_
          obtain ⟨hp5, k⟩ := k
          refine U_callV1 [.int a1, .int (0 : Int32)] dX12_deal_39 ov_X12_202 s_68 rfl ⟨rfl, rfl, rfl⟩ rfl rfl rfl (tX12_its hp5 ?_)
          refine V_iload_n dX12_deal_42 rfl ?_
          refine V_icmp_ne dX12_deal_43 (fun c6 => ?_) (fun c6 => ?_)
          · have k := k.1 c6
            refine V_aload_n dX12_deal_48 rfl ?_
            refine V_iload_n dX12_deal_49 rfl ?_
            refine V_iload_n dX12_deal_50 rfl ?_
            refine V_iconst (v := (0 : Int32)) dX12_deal_51 rfl ?_
            refine U_callV1 [.int a1, .int a0, .int (0 : Int32)] dX12_deal_52 ov_X12_231 s_68 rfl ⟨rfl, rfl, rfl⟩ rfl rfl rfl (CallI_mono k (fun x7 I8 J9 k => ?_))
            refine V_iload_n dX12_deal_55 rfl ?_
            refine V_icmp_le dX12_deal_56 (fun c10 => ?_) (fun c10 => ?_)
            · have k := k.1 c10
              refine V_aload_n dX12_deal_62 rfl ?_
              refine U_callV1 [] dX12_deal_63 ov_X12_221 s_68 rfl ⟨rfl, rfl, rfl⟩ rfl rfl rfl (tX12_deals ?_)
              refine V_bipush (v := (24 : Int32)) dX12_deal_66 rfl ?_
              refine V_icmp_ne dX12_deal_68 (fun c11 => ?_) (fun c11 => ?_)
              · have k := k.1 c11
                refine V_sipush (v := (170 : Int32)) dX12_deal_74 rfl ?_
                refine V_iconst (v := (4 : Int32)) dX12_deal_77 rfl ?_
                refine V_aload_n dX12_deal_78 rfl ?_
                refine U_callV1 [] dX12_deal_79 ov_X12_221 s_68 rfl ⟨rfl, rfl, rfl⟩ rfl rfl rfl (tX12_deals ?_)
                refine V_imul dX12_deal_82 ?_
                refine V_iadd dX12_deal_83 ?_
                refine U_istore (L2 := [.ref 68, .int a0, .int a1, .int a2, .int a3, .int ((170 : Int32) + ((4 : Int32) * (I8 82 282)))]) dX12_deal_84 (by decide) rfl ?_
                refine V_aload_n dX12_deal_86 rfl ?_
                refine U_getR dX12_deal_87 fl_X12_49 s_68 rfl ?_
                refine V_iload dX12_deal_90 rfl ?_
                refine V_iload_n dX12_deal_92 rfl ?_
                obtain ⟨hb12, k⟩ := k
                refine U_iast dX12_deal_93 s_82 hb12 ?_
                refine V_aload_n dX12_deal_94 rfl ?_
                refine U_getR dX12_deal_95 fl_X12_49 s_68 rfl ?_
                refine V_iload dX12_deal_98 rfl ?_
                refine V_iconst (v := (1 : Int32)) dX12_deal_100 rfl ?_
                refine V_iadd dX12_deal_101 ?_
                refine V_iload_n dX12_deal_102 rfl ?_
                obtain ⟨hb13, k⟩ := k
                refine U_iast dX12_deal_103 s_82 hb13 ?_
                refine V_aload_n dX12_deal_104 rfl ?_
                refine U_getR dX12_deal_105 fl_X12_49 s_68 rfl ?_
                refine V_iload dX12_deal_108 rfl ?_
                refine V_iconst (v := (2 : Int32)) dX12_deal_110 rfl ?_
                refine V_iadd dX12_deal_111 ?_
                refine V_iload_n dX12_deal_112 rfl ?_
                obtain ⟨hb14, k⟩ := k
                refine U_iast dX12_deal_113 s_82 hb14 ?_
                refine V_aload_n dX12_deal_114 rfl ?_
                refine U_getR dX12_deal_115 fl_X12_49 s_68 rfl ?_
                refine V_iload dX12_deal_118 rfl ?_
                refine V_iconst (v := (3 : Int32)) dX12_deal_120 rfl ?_
                refine V_iadd dX12_deal_121 ?_
                refine V_iload dX12_deal_122 rfl ?_
                obtain ⟨hb15, k⟩ := k
                refine U_iast dX12_deal_124 s_82 hb15 ?_
                refine V_aload_n dX12_deal_125 rfl ?_
                refine U_getR dX12_deal_126 fl_X12_49 s_68 rfl ?_
                refine V_sipush (v := (282 : Int32)) dX12_deal_129 rfl ?_
                refine V_dup2 dX12_deal_132 ?_
                refine U_ialdx (x := (upI (upI (upI (upI I8 82 (((170 : Int32) + ((4 : Int32) * (I8 82 282))).toNatClampNeg) a0) 82 ((((170 : Int32) + ((4 : Int32) * (I8 82 282))) + (1 : Int32)).toNatClampNeg) a1) 82 ((((170 : Int32) + ((4 : Int32) * (I8 82 282))) + (2 : Int32)).toNatClampNeg) a2) 82 ((((170 : Int32) + ((4 : Int32) * (I8 82 282))) + (3 : Int32)).toNatClampNeg) a3) 82 282) dX12_deal_133 s_82 (by unfold vp_in; decide) rfl ?_
                refine V_iconst (v := (1 : Int32)) dX12_deal_134 rfl ?_
                refine V_iadd dX12_deal_135 ?_
                refine U_iast dX12_deal_136 s_82 (by unfold vp_in; decide) ?_
                refine V_aload_n dX12_deal_137 rfl ?_
                refine U_callV1 [] dX12_deal_138 ov_X12_221 s_68 rfl ⟨rfl, rfl, rfl⟩ rfl rfl rfl (tX12_deals ?_)
                refine V_iconst (v := (1 : Int32)) dX12_deal_141 rfl ?_
                refine V_isub dX12_deal_142 ?_
                exact V_iret dX12_deal_143 ⟨_, rfl, rfl⟩ rfl rfl ⟨_, _, _, rfl, rfl, k⟩
              · have k := k.2 c11
                refine V_bipush (v := (-3 : Int32)) dX12_deal_71 rfl ?_
                exact V_iret dX12_deal_73 ⟨_, rfl, rfl⟩ rfl rfl ⟨_, _, _, rfl, rfl, k⟩
            · have k := k.2 c10
              refine V_bipush (v := (-2 : Int32)) dX12_deal_59 rfl ?_
              exact V_iret dX12_deal_61 ⟨_, rfl, rfl⟩ rfl rfl ⟨_, _, _, rfl, rfl, k⟩
          · have k := k.2 c6
            refine V_iconst (v := (-1 : Int32)) dX12_deal_46 rfl ?_
            exact V_iret dX12_deal_47 ⟨_, rfl, rfl⟩ rfl rfl ⟨_, _, _, rfl, rfl, k⟩
theorem Rel_ag81 {I I2 : hI_} (h : ag1 81 I I2) (hr : Rel I) : Rel I2 := Rel_agM (ag1_M rfl (by omega) h) hr
/-- a deal put behind the others, in both -/
theorem Rel_dadd {I I2 : hI_} {p c m : Nat} {v : Int32} (h : Rel I) (hn : nD I < 24) (ho0 : ∀ a, a ≠ 26 → a ≠ 27 → a ≠ 82 → a ≠ 81 → scX a = false → I2 a = I a) (x2 : I2 26 3 = nI (nD I + 1)) (x3 : ∀ j, j ≠ 3 → I2 26 j = I 26 j) (x40 : I2 27 (5 * nD I) = nI p) (x41 : I2 27 (5 * nD I + 1) = nI c) (x42 : I2 27 (5 * nD I + 2) = nI m) (x43 : I2 27 (5 * nD I + 3) = v) (x44 : I2 27 (5 * nD I + 4) = nI (arr (wI I) p m (qN I c))) (x5 : ∀ j, j < 5 * nD I → I2 27 j = I 27 j) (m2 : I2 82 282 = nI (nD I + 1)) (m40 : I2 82 (170 + 4 * nD I) = nI p) (m41 : I2 82 (170 + 4 * nD I + 1) = nI c) (m42 : I2 82 (170 + 4 * nD I + 2) = nI m) (m43 : I2 82 (170 + 4 * nD I + 3) = v) (m5 : ∀ j, j ≠ 282 → (j < 170 + 4 * nD I ∨ 170 + 4 * nD I + 4 ≤ j) → I2 82 j = I 82 j) (hp : p < nP I) (hc : c < nC I) (hm : m ≤ 999) (hv : bet 1 v 99) (hq : qN I c ≠ p) (ha : arr (wI I) (qN I c) (mN I c) p ≤ m) : Rel I2 := by
  have hC := Rel_C h
  have hP := Rel_P h
  have hD := Rel_D h
  generalize hK : (fun a => if a = 81 then I 81 else I2 a : hI_) = K
  have k81 : ∀ a, a ≠ 81 → K a = I2 a := fun a e => by rw [← hK]; exact if_neg e
  have hag : ag1 81 K I2 := fun a e => (k81 a e).symm
  refine Rel_ag81 hag ?_
  have ho : ∀ a, a ≠ 26 → a ≠ 27 → a ≠ 82 → scX a = false → K a = I a := fun a q1 q2 q3 q4 => by
    by_cases e : a = 81
    · rw [e, ← hK]; exact if_pos rfl
    · rw [k81 a e]; exact ho0 a q1 q2 q3 e q4
  have t26 := k81 26 (by omega)
  have t27 := k81 27 (by omega)
  have t82 := k81 82 (by omega)
  rw [← t26] at x2 x3
  rw [← t27] at x40 x41 x42 x43 x44 x5
  rw [← t82] at m2 m40 m41 m42 m43 m5
  have hSt : (I 22 3).toInt ≤ 24 := (lt_of_rok h.2.2.1.1).2
  have hCt : (I 24 3).toInt ≤ 12 := (lt_of_rok h.2.2.1.2.1).2
  have hdt : (I 26 3).toInt = nD I := by rw [hD.1, nI_toInt (by omega)]
  have hct : (I 24 3).toInt = nC I := by rw [hC.1, nI_toInt (by omega)]
  have hpt : (I 73 0).toInt = nP I := by rw [hP.2.1, nI_toInt (by omega)]
  obtain ⟨⟨s1, s2⟩, ⟨c1, c2⟩, d1, d2⟩ := h.2.2.2.1
  refine Rel_upd h (fun a q1 q2 q3 => ho a (by omega) (by omega) q2 q3) (fun j hj => m5 j (by omega) (by omega)) ?_ ?_
  · rw [ho 22 (by omega) (by omega) (by omega) rfl, ho 24 (by omega) (by omega) (by omega) rfl]
    refine ⟨h.2.2.1.1, h.2.2.1.2.1, ?_⟩
    obtain ⟨q1, q2, q3, q4⟩ := h.2.2.1.2.2.1
    refine ⟨by rw [x3 1 (by omega)]; exact q1, by rw [x3 0 (by omega)]; exact q2, by rw [x2]; exact nI_pos' (by omega), by rw [x2]; exact nI_le (b := 24) (by omega) (by omega)⟩
  · rw [ho 22 (by omega) (by omega) (by omega) rfl, ho 23 (by omega) (by omega) (by omega) rfl, ho 24 (by omega) (by omega) (by omega) rfl, ho 25 (by omega) (by omega) (by omega) rfl]
    refine ⟨⟨?_, fun k hk => ?_⟩, ⟨?_, fun k hk => ?_⟩, ?_, fun d hd => ?_⟩
    · rw [m5 (0 + 280) (by omega) (by omega)]; exact s1
    · have := s2 k hk
      rw [m5 (0 + 3 * k) (by omega) (by omega), m5 (0 + 3 * k + 1) (by omega) (by omega), m5 (0 + 3 * k + 2) (by omega) (by omega)]; exact this
    · rw [m5 (0 + 281) (by omega) (by omega)]; exact c1
    · obtain ⟨g1, g2, g3⟩ := c2 k hk
      refine ⟨fun j hj => ?_, g2, ?_⟩
      · rw [m5 _ (by omega) (by omega)]; exact g1 j hj
      · rw [m5 _ (by omega) (by omega)]; exact g3
    · rw [x2]; exact m2.symm
    · rw [x2, nI_toInt (by omega)] at hd
      simp only [Nat.zero_add]
      by_cases e : d < nD I
      · obtain ⟨g1, p', c', m', q', t', b0, b1, b2, b3, b4, b5, b6, b7, b8, b9, b10, b11, b12, b13⟩ := d2 d (by omega)
        simp only [Nat.zero_add] at g1
        refine ⟨fun j hj => ?_, p', c', m', q', t', ?_, ?_, ?_, b3, b4, b5, ?_, b7, b8, b9, b10, b11, ?_, b13⟩
        · rw [x5 _ (by omega), m5 _ (by omega) (by omega)]; exact g1 j hj
        · rw [x5 _ (by omega)]; exact b0
        · rw [x5 _ (by omega)]; exact b1
        · rw [x5 _ (by omega)]; exact b2
        · rw [x5 _ (by omega)]; exact b6
        · rw [x5 _ (by omega)]; exact b12
      · have e : d = nD I := by omega
        subst e
        have q0 := ((Rel_call h hc).1 0 (by omega)).2
        have q1 := ((Rel_call h hc).1 1 (by omega)).2
        have hq1 : cK I c 0 = nI (qN I c) := (cK_q h hc).1
        have hm1 : cK I c 1 = nI (mN I c) := (cK_min h hc).1
        refine ⟨fun j hj => ?_, p, c, m, qN I c, mN I c, x40, x41, x42, by omega, by omega, hm, by rw [x43]; exact hv, q0.trans hq1, hq, by have := (cK_q h hc).2; omega, q1.trans hm1, (cK_min h hc).2, x44, ha⟩
        rcases (show j = 0 ∨ j = 1 ∨ j = 2 ∨ j = 3 by omega) with rfl | rfl | rfl | rfl
        · exact x40.trans m40.symm
        · exact x41.trans m41.symm
        · exact x42.trans m42.symm
        · exact x43.trans m43.symm
theorem d4_nI (k : Nat) : (170 : Int32) + 4 * nI k = nI (170 + 4 * k) := by rw [show (4 : Int32) = nI 4 from rfl, show (170 : Int32) = nI 170 from rfl, pk_mul, nI_add]
/-- the model's looking who has seen a call, by the plan and the calls alone -/
theorem tX12_seenByP {E : aE} {P : Int32 → hI_ → hJ_ → Prop} {I : hI_} {J : hJ_} {c p q m : Nat} (h : RPlanI I) (hc : c < 12) (hp : p < 5) (hq : q < 5) (hq1 : I 82 (72 + 8 * c) = nI q) (hm : m ≤ 999) (hm1 : I 82 (72 + 8 * c + 1) = nI m) (k : ∀ I2, ag1 81 I I2 → P (nI (arr (wI I) q m p)) I2 J) : CallI E mX12_seenBy [.ref 68, .int (nI c), .int (nI p), .int 0] SH I J P := by
  have i : ∀ j, j < 8 → inC (nI c) (nI j) := fun j hj => inC_nI (by omega) hj
  have e0 : its I (nI c) 0 = nI q := (its_nI I (c := c) (j := 0) hc (by omega)).trans hq1
  have e1 : its I (nI c) 1 = nI m := (its_nI I (c := c) (j := 1) hc (by omega)).trans hm1
  refine wX12_seenBy ⟨i 0 (by omega), fun _ => i 7 (by omega), fun _ => i 1 (by omega), ?_⟩
  rw [e0, if_neg (fun w => w rfl), e1]
  exact tX12_newsP h hq hp (by omega) k
/-- the class's own part behind the first look -/
theorem dealX {E : aE} {P : Int32 → hI_ → hJ_ → Prop} {I : hI_} {J : hJ_} {p c m : Nat} {v : Int32} (h : Rel I) (hp : p < nP I) (hc : c < nC I) (hm : m ≤ 999) (hn : nD I < 24) (k : ∀ I2, (∀ a, a ≠ 26 → a ≠ 27 → scX a = false → I2 a = I a) → I2 26 3 = nI (nD I + 1) → (∀ j, j ≠ 3 → I2 26 j = I 26 j) → I2 27 (5 * nD I) = nI p → I2 27 (5 * nD I + 1) = nI c → I2 27 (5 * nD I + 2) = nI m → I2 27 (5 * nD I + 3) = v → I2 27 (5 * nD I + 4) = nI (arr (wI I) p m (qN I c)) → (∀ j, j < 5 * nD I → I2 27 j = I 27 j) → P (nI (nD I)) I2 J) : (rok (rgrI I 26) 26 5 24) ∧ (rok (rput (rgrI I 26) 26 27 (nI (nD I)) 0 (nI p)) 26 5 24) ∧ (rok (rput (rput (rgrI I 26) 26 27 (nI (nD I)) 0 (nI p)) 26 27 (nI (nD I)) (1) (nI c)) 26 5 24) ∧ (rok (rput (rput (rput (rgrI I 26) 26 27 (nI (nD I)) 0 (nI p)) 26 27 (nI (nD I)) (1) (nI c)) 26 27 (nI (nD I)) (2) (nI m)) 26 5 24) ∧ CallI E mX2_arrival [.ref 18, .int (nI p), .int (nI (qN I c)), .int (nI m)] SH (rput (rput (rput (rput (rgrI I 26) 26 27 (nI (nD I)) 0 (nI p)) 26 27 (nI (nD I)) (1) (nI c)) 26 27 (nI (nD I)) (2) (nI m)) 26 27 (nI (nD I)) (3) v) J (fun x17 I18 J19 => (rok I18 26 5 24) ∧ P (nI (nD I)) (rput I18 26 27 (nI (nD I)) (4) x17) J19) := by
  have hD := Rel_D h
  have hq := (cK_q h hc).2
  have hpl : RPlanI I := h.2.1
  have hsc : ∀ a, scX a = false → a ≠ 19 := fun a e z => by rw [z] at e; cases e
  generalize hd : nD I = n at *
  obtain ⟨r1, r2, r3, r4⟩ := (Rel_rows h).2.2
  have ei : rgrI I 26 = upI I 26 3 (nI (n + 1)) := by
    unfold rgrI
    rw [r2, hD.1, nI_1, if_neg (show ¬ (24 : Int32) ≤ nI n from nI_ge (b := 24) hn (by omega))]
  rw [ei]
  have ok : ∀ I2 : hI_, I2 26 = (upI I 26 3 (nI (n + 1))) 26 → rok I2 26 5 24 ∧ (n : Int) < (I2 26 3).toInt := fun I2 h2 => by
    have e3 : I2 26 3 = nI (n + 1) := by rw [h2]; exact upI_same
    have e1 : I2 26 1 = I 26 1 := by rw [h2]; rfl
    have e0 : I2 26 0 = I 26 0 := by rw [h2]; rfl
    refine ⟨⟨e1.trans r1, e0.trans r2, by rw [e3]; exact nI_pos' (by omega), by rw [e3]; exact nI_le (b := 24) (by omega) (by omega)⟩, by rw [e3, nI_toInt (by omega)]; omega⟩
  have pu : ∀ (I2 : hI_) (j : Nat) (v : Int32), j < 5 → I2 26 = (upI I 26 3 (nI (n + 1))) 26 → rput I2 26 27 (nI n) (nI j) v = upI I2 27 (5 * n + j) v := fun I2 j v hj h2 => by
    have o := ok I2 h2
    rw [rput_nI (w := 5) (m := 24) o.1 o.2 hj (by omega) (by omega) (by omega), Nat.mul_comm n 5]
  generalize hB : upI I 26 3 (nI (n + 1)) = B
  rw [hB] at ok pu
  have p0 := pu B 0 (nI p) (by omega) rfl
  have p1 := pu (upI B 27 (5 * n) (nI p)) 1 (nI c) (by omega) rfl
  have p2 := pu (upI (upI B 27 (5 * n) (nI p)) 27 (5 * n + 1) (nI c)) 2 (nI m) (by omega) rfl
  have p3 := pu (upI (upI (upI B 27 (5 * n) (nI p)) 27 (5 * n + 1) (nI c)) 27 (5 * n + 2) (nI m)) 3 v (by omega) rfl
  simp only [Nat.add_zero] at p0
  rw [show nI 0 = (0 : Int32) from rfl] at p0
  rw [show nI 1 = (1 : Int32) from rfl] at p1
  rw [show nI 2 = (2 : Int32) from rfl] at p2
  rw [show nI 3 = (3 : Int32) from rfl] at p3
  rw [p0, p1, p2, p3]
  refine ⟨(ok _ rfl).1, (ok _ rfl).1, (ok _ rfl).1, (ok _ rfl).1, ?_⟩
  generalize hF : upI (upI (upI (upI B 27 (5 * n) (nI p)) 27 (5 * n + 1) (nI c)) 27 (5 * n + 2) (nI m)) 27 (5 * n + 3) v = F
  have hFo : ∀ a, a ≠ 26 → a ≠ 27 → F a = I a := fun a e1 e2 => by
    funext j
    rw [← hF, upI_at, if_neg (fun z => e2 z.1), upI_at, if_neg (fun z => e2 z.1), upI_at, if_neg (fun z => e2 z.1), upI_at, if_neg (fun z => e2 z.1), ← hB, upI_at, if_neg (fun z => e1 z.1)]
  have hF26 : F 26 = B 26 := by rw [← hF]; rfl
  have hw : wI F = wI I := by unfold wI; rw [hFo 73 (by omega) (by omega), hFo 75 (by omega) (by omega), hFo 76 (by omega) (by omega)]
  have hnp : nP F = nP I := by unfold nP; rw [hFo 73 (by omega) (by omega)]
  have hPl : RPlanI F := by
    unfold RPlanI at hpl ⊢
    rw [hFo 3 (by omega) (by omega), hFo 4 (by omega) (by omega), hFo 5 (by omega) (by omega), hFo 6 (by omega) (by omega), hFo 7 (by omega) (by omega), hFo 8 (by omega) (by omega), hFo 9 (by omega) (by omega), hFo 73 (by omega) (by omega), hFo 74 (by omega) (by omega), hFo 75 (by omega) (by omega), hFo 76 (by omega) (by omega)]
    exact hpl
  refine tX2_arrivalP hPl (by omega) (by omega) (by omega) (fun G hG => ?_)
  have g26 : G 26 = B 26 := (hG 26 (by omega)).trans hF26
  have g27 : G 27 = F 27 := hG 27 (by omega)
  refine ⟨(ok G g26).1, ?_⟩
  have p4 := pu G 4 (nI (arr (wI F) p m (qN I c))) (by omega) g26
  rw [show nI 4 = (4 : Int32) from rfl] at p4
  rw [p4, hw]
  have hit : ∀ (K : hI_) (j : Nat) (x : Int32), upI K 27 j x 27 j = x := fun K j x => upI_same
  have mis : ∀ (K : hI_) (j i : Nat) (x : Int32), i ≠ j → upI K 27 j x 27 i = K 27 i := fun K j i x e => by rw [upI_at, if_neg (fun z => e z.2)]
  have f0 : F 27 (5 * n) = nI p := by rw [← hF, mis _ _ _ _ (by omega), mis _ _ _ _ (by omega), mis _ _ _ _ (by omega), hit]
  have f1 : F 27 (5 * n + 1) = nI c := by rw [← hF, mis _ _ _ _ (by omega), mis _ _ _ _ (by omega), hit]
  have f2 : F 27 (5 * n + 2) = nI m := by rw [← hF, mis _ _ _ _ (by omega), hit]
  have f3 : F 27 (5 * n + 3) = v := by rw [← hF, hit]
  have fl : ∀ j, j < 5 * n → F 27 j = I 27 j := fun j hj => by rw [← hF, mis _ _ _ _ (by omega), mis _ _ _ _ (by omega), mis _ _ _ _ (by omega), mis _ _ _ _ (by omega), ← hB, upI_at, if_neg (by omega)]
  refine k _ (fun a e1 e2 e3 => ?_) ?_ (fun j hj => ?_) ?_ ?_ ?_ ?_ (hit _ _ _) (fun j hj => ?_)
  · funext j
    rw [upI_at, if_neg (fun z => e2 z.1), hG a (hsc a e3), hFo a e1 e2]
  · rw [upI_at, if_neg (by omega), g26, ← hB]; exact upI_same
  · rw [upI_at, if_neg (by omega), g26, ← hB, upI_at, if_neg (fun z => hj z.2)]
  · rw [mis _ _ _ _ (by omega), g27]; exact f0
  · rw [mis _ _ _ _ (by omega), g27]; exact f1
  · rw [mis _ _ _ _ (by omega), g27]; exact f2
  · rw [mis _ _ _ _ (by omega), g27]; exact f3
  · rw [mis _ _ _ _ (by omega), g27]; exact fl j hj
theorem op_deal {E : aE} {I : hI_} {J : hJ_} {P : hI_ → hJ_ → Prop} {a0 a1 a2 a3 : Int32} (h : Rel I) (hP : ∀ I2 J2, Rel I2 → P I2 J2) : Op2 E mX11_deal mX12_deal [.int a0, .int a1, .int a2, .int a3] I J P := by
  have hp := Rel_P h
  have hC := Rel_C h
  have hD := Rel_D h
  have e := Rel_pl h
  have ec := Rel_nc h
  have hr := (Rel_rows h).2.1
  have bad : ¬ ((0 ≤ a0 ∧ a0 ≤ I 73 0 - 1) ∧ (0 ≤ a1 ∧ a1 ≤ I 82 281 - 1) ∧ (0 ≤ a2 ∧ a2 ≤ 999) ∧ (1 ≤ a3 ∧ a3 ≤ 99)) → CallI E mX12_deal [.ref 68, .int a0, .int a1, .int a2, .int a3] SH I J (fun r2 I2 J2 => (-1 : Int32) = r2 ∧ P I2 J2) := fun hb => wX12_deal ⟨fun _ => ⟨rfl, hP I J h⟩, fun d1 => ⟨fun _ => ⟨rfl, hP I J h⟩, fun d2 => ⟨fun _ => ⟨rfl, hP I J h⟩, fun d3 => ⟨fun _ => ⟨rfl, hP I J h⟩, fun d4 => absurd ⟨d1, d2, d3, d4⟩ hb⟩⟩⟩⟩
  refine wX11_deal ⟨fun c1 => bad (fun z => c1 (by rw [e]; exact z.1)), fun c1 => ⟨fun c2 => bad (fun z => c2 (by rw [ec]; exact z.2.1)), fun c2 => ⟨fun c3 => bad (fun z => c3 z.2.2.1), fun c3 => ⟨fun c4 => ⟨hr, ?_⟩, fun c4 => bad (fun z => c4 z.2.2.2)⟩⟩⟩⟩
  rw [e] at c1
  rw [ec] at c2
  have c1' := c1
  have c2' := c2
  rw [hp.2.1] at c1'
  rw [hC.2.1] at c2'
  obtain ⟨y, hy, rfl⟩ := in_lt (by omega) c1'
  obtain ⟨x, hx, rfl⟩ := in_lt (by omega) c2'
  obtain ⟨t, ht, rfl⟩ := in999 c3
  have e0 : rat I 24 25 (nI x) 0 = cK I x 0 := ((Rel_call h hx).1 0 (by omega)).1
  have e1 : rat I 24 25 (nI x) 1 = cK I x 1 := ((Rel_call h hx).1 1 (by omega)).1
  have hq := cK_q h hx
  have hm := cK_min h hx
  have i0 : inC (nI x) 0 := inC_nI (j := 0) (by omega) (by omega)
  -- the model, up to its look
  have hM : ∀ (v : Int32) (I1 : hI_), I1 73 = I 73 → I1 82 = I 82 → wI I1 = wI I → RPlanI I1 → ¬ qN I x = y → (∀ I2, ag1 81 I1 I2 → ((nI (arr (wI I) (qN I x) (mN I x) y) ≤ nI t → ((¬ (I2 82 282) = (24) → (vp_in ((170) + ((4) * (I2 82 282))) 900) ∧ (vp_in (((170) + ((4) * (I2 82 282))) + (1)) 900) ∧ (vp_in (((170) + ((4) * (I2 82 282))) + (2)) 900) ∧ (vp_in (((170) + ((4) * (I2 82 282))) + (3)) 900) ∧ (fun (r2 : Int32) (I3 : hI_) (J3 : hJ_) => v = r2 ∧ P I3 J3) (((upI (upI (upI (upI (upI I2 82 (((170) + ((4) * (I2 82 282))).toNatClampNeg) (nI y)) 82 ((((170) + ((4) * (I2 82 282))) + (1)).toNatClampNeg) (nI x)) 82 ((((170) + ((4) * (I2 82 282))) + (2)).toNatClampNeg) (nI t)) 82 ((((170) + ((4) * (I2 82 282))) + (3)).toNatClampNeg) a3) 82 282 (((upI (upI (upI (upI I2 82 (((170) + ((4) * (I2 82 282))).toNatClampNeg) (nI y)) 82 ((((170) + ((4) * (I2 82 282))) + (1)).toNatClampNeg) (nI x)) 82 ((((170) + ((4) * (I2 82 282))) + (2)).toNatClampNeg) (nI t)) 82 ((((170) + ((4) * (I2 82 282))) + (3)).toNatClampNeg) a3) 82 282) + (1))) 82 282) - (1)) (upI (upI (upI (upI (upI I2 82 (((170) + ((4) * (I2 82 282))).toNatClampNeg) (nI y)) 82 ((((170) + ((4) * (I2 82 282))) + (1)).toNatClampNeg) (nI x)) 82 ((((170) + ((4) * (I2 82 282))) + (2)).toNatClampNeg) (nI t)) 82 ((((170) + ((4) * (I2 82 282))) + (3)).toNatClampNeg) a3) 82 282 (((upI (upI (upI (upI I2 82 (((170) + ((4) * (I2 82 282))).toNatClampNeg) (nI y)) 82 ((((170) + ((4) * (I2 82 282))) + (1)).toNatClampNeg) (nI x)) 82 ((((170) + ((4) * (I2 82 282))) + (2)).toNatClampNeg) (nI t)) 82 ((((170) + ((4) * (I2 82 282))) + (3)).toNatClampNeg) a3) 82 282) + (1))) J) ∧ ((I2 82 282) = (24) → (v = -3 ∧ P I2 J)))) ∧ (¬ (nI (arr (wI I) (qN I x) (mN I x) y) ≤ nI t) → (v = -2 ∧ P I2 J)))) → CallI E mX12_deal [.ref 68, .int (nI y), .int (nI x), .int (nI t), .int a3] SH I1 J (fun r2 I2 J2 => v = r2 ∧ P I2 J2) := fun v I1 e73 e82 ew hpl hqy hk => by
    have e0' : its I1 (nI x) 0 = nI (qN I x) := by
      rw [← hq.1]
      refine (its_nI I1 (c := x) (j := 0) (by omega) (by omega)).trans ?_
      rw [e82]; rfl
    refine wX12_deal ⟨fun d => absurd (by rw [e73]; exact c1) d, fun _ => ⟨fun d => absurd (by rw [e82]; exact c2) d, fun _ => ⟨fun d => absurd c3 d, fun _ => ⟨fun d => absurd c4 d, fun _ => ⟨i0, fun _ => ?_, fun d => ?_⟩⟩⟩⟩⟩
    · refine tX12_seenByP (q := qN I x) (m := mN I x) hpl (by omega) (by omega) (by omega) (by rw [e82]; exact hq.1) hm.2 (by rw [e82]; exact hm.1) (fun I2 hag => ?_)
      rw [ew]
      exact hk I2 hag
    · rw [e0'] at d
      exact absurd ((nI_eq (by omega) (by omega)).mp d) hqy
  refine ⟨fun c5 => ⟨hr, ?_⟩, fun c5 => ?_⟩
  · rw [e0, hq.1] at c5
    have hqy : ¬ qN I x = y := fun z => c5 (by rw [z])
    rw [e0, e1, hq.1, hm.1]
    refine tX2_arrivalP h.2.1 (by omega) (by omega) (by omega) (fun I9 hag => ?_)
    have hX := ag1_X rfl hag
    have hR := Rel_agX hX h
    have ew := wI_X hX
    have q9 : qN I9 x = qN I x := by unfold qN; rw [cK_X hX]
    have m9 : mN I9 x = mN I x := by unfold mN; rw [cK_X hX]
    have d9 : nD I9 = nD I := nD_X hX
    have hD9 := Rel_D hR
    rw [d9] at hD9
    have er : rgr I9 26 = if nD I < 24 then nI (nD I) else -1 := by
      unfold rgr
      rw [((Rel_rows hR).2.2).2.1, hD9.1]
      by_cases q : nD I < 24
      · rw [if_neg (show ¬ (24 : Int32) ≤ nI (nD I) from nI_ge (b := 24) q (by omega)), if_pos q]
      · rw [if_pos (show (24 : Int32) ≤ nI (nD I) from nI_le (a := 24) (by omega) (by omega)), if_neg q]
    refine ⟨fun c6 => ?_, fun c6 => ?_⟩
    · have c6' : arr (wI I) (qN I x) (mN I x) y ≤ t := by
        rcases Nat.lt_or_ge t (arr (wI I) (qN I x) (mN I x) y) with z | z
        · exact absurd c6 (nI_ge z (by have := @arr_le (wI I) (qN I x) (mN I x) y; omega))
        · exact z
      rw [er]
      by_cases q : nD I < 24
      · rw [if_pos q]
        refine ⟨fun _ => ?_, fun z => absurd (nI_pos' (by omega)) z⟩
        have key := dealX (E := E) (J := J) (v := a3) (P := fun r I1 J1 => CallI E mX12_deal [.ref 68, .int (nI y), .int (nI x), .int (nI t), .int a3] SH I1 J1 (fun r2 I2 J2 => r = r2 ∧ P I2 J2)) hR (p := y) (c := x) (m := t) (by rw [nP_X hX]; exact hy) (by rw [nC_X hX]; exact hx) ht (by rw [d9]; exact q)
        rw [d9, q9, ew] at key
        refine key (fun G g1 g2 g3 g4 g5 g6 g7 g8 g9 => ?_)
        have G73 : G 73 = I 73 := (g1 73 (by omega) (by omega) rfl).trans (hX 73 rfl)
        have G82 : G 82 = I 82 := (g1 82 (by omega) (by omega) rfl).trans (hX 82 rfl)
        have Gw : wI G = wI I := by unfold wI; rw [G73, g1 75 (by omega) (by omega) rfl, g1 76 (by omega) (by omega) rfl, hX 75 rfl, hX 76 rfl]
        have GP : RPlanI G := by
          have := hR.2.1
          unfold RPlanI at this ⊢
          rw [g1 3 (by omega) (by omega) rfl, g1 4 (by omega) (by omega) rfl, g1 5 (by omega) (by omega) rfl, g1 6 (by omega) (by omega) rfl, g1 7 (by omega) (by omega) rfl, g1 8 (by omega) (by omega) rfl, g1 9 (by omega) (by omega) rfl, g1 73 (by omega) (by omega) rfl, g1 74 (by omega) (by omega) rfl, g1 75 (by omega) (by omega) rfl, g1 76 (by omega) (by omega) rfl]
          exact this
        refine hM _ G G73 G82 Gw GP hqy (fun I2 hag2 => ⟨fun _ => ?_, fun z => absurd c6 z⟩)
        have e282 : I2 82 282 = nI (nD I) := by rw [hag2 82 (by omega), G82]; exact hD.2.1
        rw [e282, d4_nI]
        refine ⟨fun _ => ?_, fun z => absurd ((nI_eq (b := 24) (by omega) (by omega)).mp z) (by omega)⟩
        have s1 : nI (170 + 4 * nD I) + 1 = nI (170 + 4 * nD I + 1) := nI_1 _
        have s2 : nI (170 + 4 * nD I) + 2 = nI (170 + 4 * nD I + 2) := nI_add _ 2
        have s3 : nI (170 + 4 * nD I) + 3 = nI (170 + 4 * nD I + 3) := nI_add _ 3
        rw [s1, s2, s3, nI_clamp (by omega), nI_clamp (by omega), nI_clamp (by omega), nI_clamp (by omega)]
        refine ⟨vp_in_nI (by omega) (by omega), vp_in_nI (by omega) (by omega), vp_in_nI (by omega) (by omega), vp_in_nI (by omega) (by omega), ?_⟩
        dsimp only
        have hit : ∀ (K : hI_) (j : Nat) (x : Int32), upI K 82 j x 82 j = x := fun K j x => upI_same
        have mis : ∀ (K : hI_) (j i : Nat) (x : Int32), i ≠ j → upI K 82 j x 82 i = K 82 i := fun K j i x e => by rw [upI_at, if_neg (fun z => e z.2)]
        have out : ∀ (K : hI_) (j a : Nat) (x : Int32), a ≠ 82 → upI K 82 j x a = K a := fun K j a x e => by funext i; rw [upI_at, if_neg (fun z => e z.1)]
        have l82 : (upI (upI (upI (upI I2 82 (170 + 4 * nD I) (nI y)) 82 (170 + 4 * nD I + 1) (nI x)) 82 (170 + 4 * nD I + 2) (nI t)) 82 (170 + 4 * nD I + 3) a3) 82 282 = nI (nD I) := by
          rw [mis _ _ _ _ (by omega), mis _ _ _ _ (by omega), mis _ _ _ _ (by omega), mis _ _ _ _ (by omega)]; exact e282
        rw [l82, hit, nI_1]
        refine ⟨(nI_pred _).symm, hP _ _ ?_⟩
        have a82 : ∀ j, I2 82 j = I9 82 j := fun j => by rw [hag2 82 (by omega), G82, hX 82 rfl]
        have n9 : nD I9 = nD I := d9
        refine Rel_dadd (p := y) (c := x) (m := t) (v := a3) hR (by omega) (fun a q1 q2 q3 q4 q5 => ?_) ?_ (fun j hj => ?_) ?_ ?_ ?_ ?_ ?_ (fun j hj => ?_) ?_ ?_ ?_ ?_ ?_ (fun j q1 q2 => ?_) (by rw [nP_X hX]; exact hy) (by rw [nC_X hX]; exact hx) ht (bet_of c4 rfl rfl) (by rw [q9]; exact hqy) (by rw [q9, m9, ew]; exact c6')
        · rw [out _ _ _ _ q3, out _ _ _ _ q3, out _ _ _ _ q3, out _ _ _ _ q3, out _ _ _ _ q3, hag2 a q4]; exact g1 a q1 q2 q5
        · rw [out _ _ _ _ (by omega), out _ _ _ _ (by omega), out _ _ _ _ (by omega), out _ _ _ _ (by omega), out _ _ _ _ (by omega), hag2 26 (by omega), n9]; exact g2
        · rw [out _ _ _ _ (by omega), out _ _ _ _ (by omega), out _ _ _ _ (by omega), out _ _ _ _ (by omega), out _ _ _ _ (by omega), hag2 26 (by omega)]; exact g3 j hj
        · rw [out _ _ _ _ (by omega), out _ _ _ _ (by omega), out _ _ _ _ (by omega), out _ _ _ _ (by omega), out _ _ _ _ (by omega), hag2 27 (by omega), n9]; exact g4
        · rw [out _ _ _ _ (by omega), out _ _ _ _ (by omega), out _ _ _ _ (by omega), out _ _ _ _ (by omega), out _ _ _ _ (by omega), hag2 27 (by omega), n9]; exact g5
        · rw [out _ _ _ _ (by omega), out _ _ _ _ (by omega), out _ _ _ _ (by omega), out _ _ _ _ (by omega), out _ _ _ _ (by omega), hag2 27 (by omega), n9]; exact g6
        · rw [out _ _ _ _ (by omega), out _ _ _ _ (by omega), out _ _ _ _ (by omega), out _ _ _ _ (by omega), out _ _ _ _ (by omega), hag2 27 (by omega), n9]; exact g7
        · rw [out _ _ _ _ (by omega), out _ _ _ _ (by omega), out _ _ _ _ (by omega), out _ _ _ _ (by omega), out _ _ _ _ (by omega), hag2 27 (by omega), n9, ew, q9]; exact g8
        · rw [n9] at hj
          rw [out _ _ _ _ (by omega), out _ _ _ _ (by omega), out _ _ _ _ (by omega), out _ _ _ _ (by omega), out _ _ _ _ (by omega), hag2 27 (by omega)]; exact g9 j hj
        · rw [hit, n9]
        · rw [n9, mis _ _ _ _ (by omega), mis _ _ _ _ (by omega), mis _ _ _ _ (by omega), mis _ _ _ _ (by omega), hit]
        · rw [n9, mis _ _ _ _ (by omega), mis _ _ _ _ (by omega), mis _ _ _ _ (by omega), hit]
        · rw [n9, mis _ _ _ _ (by omega), mis _ _ _ _ (by omega), hit]
        · rw [n9, mis _ _ _ _ (by omega), hit]
        · rw [n9] at q2
          rw [mis _ _ _ _ q1, mis _ _ _ _ (by omega), mis _ _ _ _ (by omega), mis _ _ _ _ (by omega), mis _ _ _ _ (by omega)]; exact a82 j
      · rw [if_neg q]
        refine ⟨fun z => absurd z (by decide), fun _ => ?_⟩
        have ei : rgrI I9 26 = I9 := by
          unfold rgrI
          rw [((Rel_rows hR).2.2).2.1, hD9.1, if_pos (show (24 : Int32) ≤ nI (nD I) from nI_le (a := 24) (by omega) (by omega))]
        rw [ei]
        refine hM _ I9 (hX 73 rfl) (hX 82 rfl) ew hR.2.1 hqy (fun I2 hag2 => ⟨fun _ => ⟨fun z => absurd ?_ z, fun _ => ⟨rfl, hP I2 J (Rel_ag81 hag2 hR)⟩⟩, fun z => absurd c6 z⟩)
        rw [hag2 82 (by omega), hX 82 rfl, hD.2.1, show nD I = 24 by omega]; rfl
    · exact hM _ I9 (hX 73 rfl) (hX 82 rfl) ew hR.2.1 hqy (fun I2 hag2 => ⟨fun z => absurd z c6, fun _ => ⟨rfl, hP I2 J (Rel_ag81 hag2 hR)⟩⟩)
  · rw [e0] at c5
    have e0' : its I (nI x) 0 = cK I x 0 := its_cK (j := 0) (by omega) (by omega)
    exact wX12_deal ⟨fun d => absurd c1 d, fun _ => ⟨fun d => absurd c2 d, fun _ => ⟨fun d => absurd c3 d, fun _ => ⟨fun d => absurd c4 d, fun _ => ⟨i0, fun d => absurd (e0'.trans c5) d, fun _ => ⟨rfl, hP I J h⟩⟩⟩⟩⟩⟩
