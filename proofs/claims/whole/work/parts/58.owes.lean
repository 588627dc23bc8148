set_option maxHeartbeats 4000000 in
set_option maxRecDepth 20000 in
theorem wX11_owes {E : aE} {P : Int32 → hI_ → hJ_ → Prop} {I : hI_} {J : hJ_} {a0 : Int32} {a1 : Int32} {a2 : Int32} {a3 : Int32} (k : ((¬ (0 ≤ a0 ∧ a0 ≤ I 3 6 - 1) → P (-1000000 : Int32) I J) ∧ ((0 ≤ a0 ∧ a0 ≤ I 3 6 - 1) → ((¬ (0 ≤ a2 ∧ a2 ≤ 999) → P (-1000000 : Int32) I J) ∧ ((0 ≤ a2 ∧ a2 ≤ 999) → ((¬ ((0 : Int32) ≤ a3 ∧ a3 ≤ (2 : Int32)) → P (-1000000 : Int32) I J) ∧ (((0 : Int32) ≤ a3 ∧ a3 ≤ (2 : Int32)) → ((¬ a3 = (1 : Int32) → CallV E mX7_settle [.ref 29] SH I J (fun I6 J7 => ((a3 = (0 : Int32) → CallI E mX7_debt [.ref 29, .int a0, .int a2] SH I6 J7 (fun x8 I9 J10 => P x8 I9 J10)) ∧ (a3 = (1 : Int32) → CallI E mX7_debtKnown [.ref 29, .int a0, .int a1, .int a2] SH I6 J7 (fun x12 I13 J14 => P x12 I13 J14)) ∧ ((¬ a3 = (0 : Int32) ∧ ¬ a3 = (1 : Int32)) → CallI E mX7_debtAtMost [.ref 29, .int a0, .int a2] SH I6 J7 (fun x16 I17 J18 => P x16 I17 J18))))) ∧ (a3 = (1 : Int32) → (((0 ≤ a1 ∧ a1 ≤ I 3 6 - 1) → CallV E mX7_settle [.ref 29] SH I J (fun I21 J22 => ((a3 = (0 : Int32) → CallI E mX7_debt [.ref 29, .int a0, .int a2] SH I21 J22 (fun x23 I24 J25 => P x23 I24 J25)) ∧ (a3 = (1 : Int32) → CallI E mX7_debtKnown [.ref 29, .int a0, .int a1, .int a2] SH I21 J22 (fun x27 I28 J29 => P x27 I28 J29)) ∧ ((¬ a3 = (0 : Int32) ∧ ¬ a3 = (1 : Int32)) → CallI E mX7_debtAtMost [.ref 29, .int a0, .int a2] SH I21 J22 (fun x31 I32 J33 => P x31 I32 J33))))) ∧ (¬ ((0 ≤ a1 ∧ a1 ≤ I 3 6 - 1)) → P (-1000000 : Int32) I J))))))))))) : CallI E mX11_owes [.ref 0, .int a0, .int a1, .int a2, .int a3] SH I J P := by
  refine Call_of (L := [.ref 0, .int a0, .int a1, .int a2, .int a3]) ok_X11_owes.1 rfl rfl ?_
  refine V_aload_n dX11_owes_0 rfl ?_
  refine V_iload_n dX11_owes_1 rfl ?_
  refine U_callV1 [.int a0] dX11_owes_2 ov_X11_148 s_0 rfl ⟨rfl, rfl, rfl⟩ rfl rfl rfl (tX11_isPlace ?_)
  refine U_ifb_eq dX11_owes_5 (fun c1 => ?_) (fun c1 => ?_)
  · have k := k.1 c1
    refine V_ldc_w (v := (-1000000 : Int32)) dX11_owes_39 (gt_4 114 rfl rfl) ?_
    exact V_iret dX11_owes_42 ⟨_, rfl, rfl⟩ rfl rfl ⟨_, _, _, rfl, rfl, k⟩
  · have k := k.2 c1
    refine V_iload_n dX11_owes_8 rfl ?_
    refine U_callS1 [.int a2] dX11_owes_9 os_X11_159 ⟨rfl, rfl, rfl⟩ rfl rfl rfl (tX11_isMinute ?_)
    refine U_ifb_eq dX11_owes_12 (fun c2 => ?_) (fun c2 => ?_)
    · have k := k.1 c2
      refine V_ldc_w (v := (-1000000 : Int32)) dX11_owes_39 (gt_4 114 rfl rfl) ?_
      exact V_iret dX11_owes_42 ⟨_, rfl, rfl⟩ rfl rfl ⟨_, _, _, rfl, rfl, k⟩
    · have k := k.2 c2
      refine V_iload dX11_owes_15 rfl ?_
      refine V_iconst (v := (0 : Int32)) dX11_owes_17 rfl ?_
      refine V_iconst (v := (2 : Int32)) dX11_owes_18 rfl ?_
      refine U_callS1 [.int a3, .int (0 : Int32), .int (2 : Int32)] dX11_owes_19 os_X11_104 ⟨rfl, rfl, rfl⟩ rfl rfl rfl (tX11_within ?_)
      refine U_ifb_eq dX11_owes_22 (fun c3 => ?_) (fun c3 => ?_)
      · have k := k.1 c3
        refine V_ldc_w (v := (-1000000 : Int32)) dX11_owes_39 (gt_4 114 rfl rfl) ?_
        exact V_iret dX11_owes_42 ⟨_, rfl, rfl⟩ rfl rfl ⟨_, _, _, rfl, rfl, k⟩
      · have k := k.2 c3
        refine V_iload dX11_owes_25 rfl ?_
        refine V_iconst (v := (1 : Int32)) dX11_owes_27 rfl ?_
        refine V_icmp_ne dX11_owes_28 (fun c4 => ?_) (fun c4 => ?_)
        · have k := k.1 c4
          refine V_aload_n dX11_owes_43 rfl ?_
          refine U_getR dX11_owes_44 fl_X11_60 s_0 rfl ?_
          refine U_callV0 [] dX11_owes_47 ov_X11_215 s_29 rfl ⟨rfl, rfl, rfl⟩ rfl rfl rfl (CallV_mono k (fun I6 J7 k => ?_))
          refine V_iload dX11_owes_50 rfl ?_
          by_cases c11 : a3 = (0 : Int32)
          · refine V_look (off := 28) (tgt := 80) dX11_owes_52 (by decide) (by rw [c11]; rfl) rfl ?_
            have k := k.1 c11
            refine V_aload_n dX11_owes_80 rfl ?_
            refine U_getR dX11_owes_81 fl_X11_60 s_0 rfl ?_
            refine V_iload_n dX11_owes_84 rfl ?_
            refine V_iload_n dX11_owes_85 rfl ?_
            refine U_callV1 [.int a0, .int a2] dX11_owes_86 ov_X11_266 s_29 rfl ⟨rfl, rfl, rfl⟩ rfl rfl rfl (CallI_mono k (fun x8 I9 J10 k => ?_))
            exact V_iret dX11_owes_89 ⟨_, rfl, rfl⟩ rfl rfl ⟨_, _, _, rfl, rfl, k⟩
          by_cases c15 : a3 = (1 : Int32)
          · refine V_look (off := 38) (tgt := 90) dX11_owes_52 (by decide) (by rw [c15]; rfl) rfl ?_
            have k := k.2.1 c15
            refine V_aload_n dX11_owes_90 rfl ?_
            refine U_getR dX11_owes_91 fl_X11_60 s_0 rfl ?_
            refine V_iload_n dX11_owes_94 rfl ?_
            refine V_iload_n dX11_owes_95 rfl ?_
            refine V_iload_n dX11_owes_96 rfl ?_
            refine U_callV1 [.int a0, .int a1, .int a2] dX11_owes_97 ov_X11_269 s_29 rfl ⟨rfl, rfl, rfl⟩ rfl rfl rfl (CallI_mono k (fun x12 I13 J14 k => ?_))
            exact V_iret dX11_owes_100 ⟨_, rfl, rfl⟩ rfl rfl ⟨_, _, _, rfl, rfl, k⟩
          · refine V_look (off := 49) (tgt := 101) dX11_owes_52 (by decide) (by show Op.lookupswitch.offset [(0, 28), (1, 38)] _ _ = _; rw [lv_osw (a := 0) c11 rfl, lv_osw (a := 1) c15 rfl]; rfl) rfl ?_
            have k := k.2.2 ⟨c11, c15⟩
            refine V_aload_n dX11_owes_101 rfl ?_
            refine U_getR dX11_owes_102 fl_X11_60 s_0 rfl ?_
            refine V_iload_n dX11_owes_105 rfl ?_
            refine V_iload_n dX11_owes_106 rfl ?_
            refine U_callV1 [.int a0, .int a2] dX11_owes_107 ov_X11_272 s_29 rfl ⟨rfl, rfl, rfl⟩ rfl rfl rfl (CallI_mono k (fun x16 I17 J18 k => ?_))
            exact V_iret dX11_owes_110 ⟨_, rfl, rfl⟩ rfl rfl ⟨_, _, _, rfl, rfl, k⟩
        · have k := k.2 c4
          refine V_aload_n dX11_owes_31 rfl ?_
          refine V_iload_n dX11_owes_32 rfl ?_
          refine U_callV1 [.int a1] dX11_owes_33 ov_X11_148 s_0 rfl ⟨rfl, rfl, rfl⟩ rfl rfl rfl (tX11_isPlace ?_)
          refine U_ifb_ne dX11_owes_36 (fun c19 => ?_) (fun c19 => ?_)
          · have k := k.1 c19
            refine V_aload_n dX11_owes_43 rfl ?_
            refine U_getR dX11_owes_44 fl_X11_60 s_0 rfl ?_
            refine U_callV0 [] dX11_owes_47 ov_X11_215 s_29 rfl ⟨rfl, rfl, rfl⟩ rfl rfl rfl (CallV_mono k (fun I21 J22 k => ?_))
            refine V_iload dX11_owes_50 rfl ?_
            by_cases c26 : a3 = (0 : Int32)
            · refine V_look (off := 28) (tgt := 80) dX11_owes_52 (by decide) (by rw [c26]; rfl) rfl ?_
              have k := k.1 c26
              refine V_aload_n dX11_owes_80 rfl ?_
              refine U_getR dX11_owes_81 fl_X11_60 s_0 rfl ?_
              refine V_iload_n dX11_owes_84 rfl ?_
              refine V_iload_n dX11_owes_85 rfl ?_
              refine U_callV1 [.int a0, .int a2] dX11_owes_86 ov_X11_266 s_29 rfl ⟨rfl, rfl, rfl⟩ rfl rfl rfl (CallI_mono k (fun x23 I24 J25 k => ?_))
              exact V_iret dX11_owes_89 ⟨_, rfl, rfl⟩ rfl rfl ⟨_, _, _, rfl, rfl, k⟩
            by_cases c30 : a3 = (1 : Int32)
            · refine V_look (off := 38) (tgt := 90) dX11_owes_52 (by decide) (by rw [c30]; rfl) rfl ?_
              have k := k.2.1 c30
              refine V_aload_n dX11_owes_90 rfl ?_
              refine U_getR dX11_owes_91 fl_X11_60 s_0 rfl ?_
              refine V_iload_n dX11_owes_94 rfl ?_
              refine V_iload_n dX11_owes_95 rfl ?_
              refine V_iload_n dX11_owes_96 rfl ?_
              refine U_callV1 [.int a0, .int a1, .int a2] dX11_owes_97 ov_X11_269 s_29 rfl ⟨rfl, rfl, rfl⟩ rfl rfl rfl (CallI_mono k (fun x27 I28 J29 k => ?_))
              exact V_iret dX11_owes_100 ⟨_, rfl, rfl⟩ rfl rfl ⟨_, _, _, rfl, rfl, k⟩
            · refine V_look (off := 49) (tgt := 101) dX11_owes_52 (by decide) (by show Op.lookupswitch.offset [(0, 28), (1, 38)] _ _ = _; rw [lv_osw (a := 0) c26 rfl, lv_osw (a := 1) c30 rfl]; rfl) rfl ?_
              have k := k.2.2 ⟨c26, c30⟩
              refine V_aload_n dX11_owes_101 rfl ?_
              refine U_getR dX11_owes_102 fl_X11_60 s_0 rfl ?_
              refine V_iload_n dX11_owes_105 rfl ?_
              refine V_iload_n dX11_owes_106 rfl ?_
              refine U_callV1 [.int a0, .int a2] dX11_owes_107 ov_X11_272 s_29 rfl ⟨rfl, rfl, rfl⟩ rfl rfl rfl (CallI_mono k (fun x31 I32 J33 k => ?_))
              exact V_iret dX11_owes_110 ⟨_, rfl, rfl⟩ rfl rfl ⟨_, _, _, rfl, rfl, k⟩
          · have k := k.2 c19
            refine V_ldc_w (v := (-1000000 : Int32)) dX11_owes_39 (gt_4 114 rfl rfl) ?_
            exact V_iret dX11_owes_42 ⟨_, rfl, rfl⟩ rfl rfl ⟨_, _, _, rfl, rfl, k⟩
def HX12_owes_83 (E : aE) (P : Int32 → hI_ → hJ_ → Prop) (v1 : Int32) (v2 : Int32) (v3 : Int32) (v5 : Int32) (v6 : Int32) (I : hI_) (J : hJ_) : Prop := V E mX12_owes (kI SH P) 83 [.ref 68, .int v1, .int v2, .int v3, .retAddr 0, .int v5, .int v6] [] (SH, I, J) (0, 0)
set_option maxHeartbeats 4000000 in
set_option maxRecDepth 20000 in
theorem wX12_owes {E : aE} {P : Int32 → hI_ → hJ_ → Prop} {I : hI_} {J : hJ_} {a0 : Int32} {a1 : Int32} {a2 : Int32} {a3 : Int32} (k : ((¬ (0 ≤ a0 ∧ a0 ≤ I 73 0 - 1) → P (-1000000 : Int32) I J) ∧ ((0 ≤ a0 ∧ a0 ≤ I 73 0 - 1) → ((¬ (0 ≤ a2 ∧ a2 ≤ 999) → P (-1000000 : Int32) I J) ∧ ((0 ≤ a2 ∧ a2 ≤ 999) → ((¬ ((0 : Int32) ≤ a3 ∧ a3 ≤ (2 : Int32)) → P (-1000000 : Int32) I J) ∧ (((0 : Int32) ≤ a3 ∧ a3 ≤ (2 : Int32)) → ((¬ a3 = (1 : Int32) → CallV E mX12_layStruck [.ref 68] SH I J (fun I6 J7 => ((a3 = (1 : Int32) → HX12_owes_83 E P a0 a1 a2 (0 : Int32) (0 : Int32) I6 J7) ∧ (¬ (a3 = (1 : Int32)) → ((¬ a3 = (0 : Int32) → CallI E mX12_atMost [.ref 68, .int a0, .int a2] SH I6 J7 (fun x10 I11 J12 => P x10 I11 J12)) ∧ (a3 = (0 : Int32) → CallI E mX12_owed [.ref 68, .int a0, .int a2] SH I6 J7 (fun x13 I14 J15 => P x13 I14 J15))))))) ∧ (a3 = (1 : Int32) → (((0 ≤ a1 ∧ a1 ≤ I 73 0 - 1) → CallV E mX12_layStruck [.ref 68] SH I J (fun I18 J19 => ((a3 = (1 : Int32) → HX12_owes_83 E P a0 a1 a2 (0 : Int32) (0 : Int32) I18 J19) ∧ (¬ (a3 = (1 : Int32)) → ((¬ a3 = (0 : Int32) → CallI E mX12_atMost [.ref 68, .int a0, .int a2] SH I18 J19 (fun x22 I23 J24 => P x22 I23 J24)) ∧ (a3 = (0 : Int32) → CallI E mX12_owed [.ref 68, .int a0, .int a2] SH I18 J19 (fun x25 I26 J27 => P x25 I26 J27))))))) ∧ (¬ ((0 ≤ a1 ∧ a1 ≤ I 73 0 - 1)) → P (-1000000 : Int32) I J))))))))))) : CallI E mX12_owes [.ref 68, .int a0, .int a1, .int a2, .int a3] SH I J P := by
  refine Call_of (L := [.ref 68, .int a0, .int a1, .int a2, .int a3, .retAddr 0, .retAddr 0]) ok_X12_owes.1 rfl rfl ?_
  refine V_aload_n dX12_owes_0 rfl ?_
  refine V_iload_n dX12_owes_1 rfl ?_
  refine U_callV1 [.int a0] dX12_owes_2 ov_X12_167 s_68 rfl ⟨rfl, rfl, rfl⟩ rfl rfl rfl (tX12_isPlace ?_)
  refine U_ifb_eq dX12_owes_5 (fun c1 => ?_) (fun c1 => ?_)
  · have k := k.1 c1
    refine V_ldc_w (v := (-1000000 : Int32)) dX12_owes_42 (gt_6 188 rfl rfl) ?_
    exact V_iret dX12_owes_45 ⟨_, rfl, rfl⟩ rfl rfl ⟨_, _, _, rfl, rfl, k⟩
  · have k := k.2 c1
    refine V_iload_n dX12_owes_8 rfl ?_
    refine U_callS1 [.int a2] dX12_owes_9 os_X12_179 ⟨rfl, rfl, rfl⟩ rfl rfl rfl (tX12_isMinute ?_)
    refine U_ifb_eq dX12_owes_12 (fun c2 => ?_) (fun c2 => ?_)
    · have k := k.1 c2
      refine V_ldc_w (v := (-1000000 : Int32)) dX12_owes_42 (gt_6 188 rfl rfl) ?_
      exact V_iret dX12_owes_45 ⟨_, rfl, rfl⟩ rfl rfl ⟨_, _, _, rfl, rfl, k⟩
    · have k := k.2 c2
      refine V_iload dX12_owes_15 rfl ?_
      refine V_i2l dX12_owes_17 ?_
      refine V_lconst (v := (0 : Int64)) dX12_owes_18 rfl ?_
      refine V_ldc2_w (v := (2 : Int64)) dX12_owes_19 (gt_6 39 rfl rfl) ?_
      refine U_callS1 [.long a3.toInt64, .long (0 : Int64), .long (2 : Int64)] dX12_owes_22 os_X12_91 ⟨rfl, rfl, rfl⟩ rfl rfl rfl (tX12_in32 (v := a3) (lo := (0 : Int32)) (hi := (2 : Int32)) rfl (by decide) (by decide) ?_)
      refine U_ifb_eq dX12_owes_25 (fun c3 => ?_) (fun c3 => ?_)
      · have k := k.1 c3
        refine V_ldc_w (v := (-1000000 : Int32)) dX12_owes_42 (gt_6 188 rfl rfl) ?_
        exact V_iret dX12_owes_45 ⟨_, rfl, rfl⟩ rfl rfl ⟨_, _, _, rfl, rfl, k⟩
      · have k := k.2 c3
        refine V_iload dX12_owes_28 rfl ?_
        refine V_iconst (v := (1 : Int32)) dX12_owes_30 rfl ?_
        refine V_icmp_ne dX12_owes_31 (fun c4 => ?_) (fun c4 => ?_)
        · have k := k.1 c4
          refine V_aload_n dX12_owes_46 rfl ?_
          refine U_callV0 [] dX12_owes_47 ov_X12_218 s_68 rfl ⟨rfl, rfl, rfl⟩ rfl rfl rfl (CallV_mono k (fun I6 J7 k => ?_))
          refine V_iload dX12_owes_50 rfl ?_
          refine V_iconst (v := (1 : Int32)) dX12_owes_52 rfl ?_
          refine V_icmp_eq dX12_owes_53 (fun c8 => ?_) (fun c8 => ?_)
          · have k := k.1 c8
            refine V_iconst (v := (0 : Int32)) dX12_owes_77 rfl ?_
            refine U_istore (L2 := [.ref 68, .int a0, .int a1, .int a2, .int a3, .int (0 : Int32), .retAddr 0]) dX12_owes_78 (by decide) rfl ?_
            refine V_iconst (v := (0 : Int32)) dX12_owes_80 rfl ?_
            refine U_istore (L2 := [.ref 68, .int a0, .int a1, .int a2, .int a3, .int (0 : Int32), .int (0 : Int32)]) dX12_owes_81 (by decide) rfl ?_
            exact V_wk (wk_eq (wk_eq (wk_eq (wk_eq (wk_j (wk_eq (wk_eq (wk_nil)))))))) k
          · have k := k.2 c8
            refine V_iload dX12_owes_56 rfl ?_
            refine V_if_ne dX12_owes_58 (fun c9 => ?_) (fun c9 => ?_)
            · have k := k.1 c9
              refine V_aload_n dX12_owes_70 rfl ?_
              refine V_iload_n dX12_owes_71 rfl ?_
              refine V_iload_n dX12_owes_72 rfl ?_
              refine U_callV1 [.int a0, .int a2] dX12_owes_73 ov_X12_272 s_68 rfl ⟨rfl, rfl, rfl⟩ rfl rfl rfl (CallI_mono k (fun x10 I11 J12 k => ?_))
              exact V_iret dX12_owes_76 ⟨_, rfl, rfl⟩ rfl rfl ⟨_, _, _, rfl, rfl, k⟩
            · have k := k.2 c9
              refine V_aload_n dX12_owes_61 rfl ?_
              refine V_iload_n dX12_owes_62 rfl ?_
              refine V_iload_n dX12_owes_63 rfl ?_
              refine U_callV1 [.int a0, .int a2] dX12_owes_64 ov_X12_248 s_68 rfl ⟨rfl, rfl, rfl⟩ rfl rfl rfl (CallI_mono k (fun x13 I14 J15 k => ?_))
              refine V_goto dX12_owes_67 ?_
              exact V_iret dX12_owes_76 ⟨_, rfl, rfl⟩ rfl rfl ⟨_, _, _, rfl, rfl, k⟩
        · have k := k.2 c4
          refine V_aload_n dX12_owes_34 rfl ?_
          refine V_iload_n dX12_owes_35 rfl ?_
          refine U_callV1 [.int a1] dX12_owes_36 ov_X12_167 s_68 rfl ⟨rfl, rfl, rfl⟩ rfl rfl rfl (tX12_isPlace ?_)
          refine U_ifb_ne dX12_owes_39 (fun c16 => ?_) (fun c16 => ?_)
          · have k := k.1 c16
            refine V_aload_n dX12_owes_46 rfl ?_
            refine U_callV0 [] dX12_owes_47 ov_X12_218 s_68 rfl ⟨rfl, rfl, rfl⟩ rfl rfl rfl (CallV_mono k (fun I18 J19 k => ?_))
            refine V_iload dX12_owes_50 rfl ?_
            refine V_iconst (v := (1 : Int32)) dX12_owes_52 rfl ?_
            refine V_icmp_eq dX12_owes_53 (fun c20 => ?_) (fun c20 => ?_)
            · have k := k.1 c20
              refine V_iconst (v := (0 : Int32)) dX12_owes_77 rfl ?_
              refine U_istore (L2 := [.ref 68, .int a0, .int a1, .int a2, .int a3, .int (0 : Int32), .retAddr 0]) dX12_owes_78 (by decide) rfl ?_
              refine V_iconst (v := (0 : Int32)) dX12_owes_80 rfl ?_
              refine U_istore (L2 := [.ref 68, .int a0, .int a1, .int a2, .int a3, .int (0 : Int32), .int (0 : Int32)]) dX12_owes_81 (by decide) rfl ?_
              exact V_wk (wk_eq (wk_eq (wk_eq (wk_eq (wk_j (wk_eq (wk_eq (wk_nil)))))))) k
            · have k := k.2 c20
              refine V_iload dX12_owes_56 rfl ?_
              refine V_if_ne dX12_owes_58 (fun c21 => ?_) (fun c21 => ?_)
              · have k := k.1 c21
                refine V_aload_n dX12_owes_70 rfl ?_
                refine V_iload_n dX12_owes_71 rfl ?_
                refine V_iload_n dX12_owes_72 rfl ?_
                refine U_callV1 [.int a0, .int a2] dX12_owes_73 ov_X12_272 s_68 rfl ⟨rfl, rfl, rfl⟩ rfl rfl rfl (CallI_mono k (fun x22 I23 J24 k => ?_))
                exact V_iret dX12_owes_76 ⟨_, rfl, rfl⟩ rfl rfl ⟨_, _, _, rfl, rfl, k⟩
              · have k := k.2 c21
                refine V_aload_n dX12_owes_61 rfl ?_
                refine V_iload_n dX12_owes_62 rfl ?_
                refine V_iload_n dX12_owes_63 rfl ?_
                refine U_callV1 [.int a0, .int a2] dX12_owes_64 ov_X12_248 s_68 rfl ⟨rfl, rfl, rfl⟩ rfl rfl rfl (CallI_mono k (fun x25 I26 J27 k => ?_))
                refine V_goto dX12_owes_67 ?_
                exact V_iret dX12_owes_76 ⟨_, rfl, rfl⟩ rfl rfl ⟨_, _, _, rfl, rfl, k⟩
          · have k := k.2 c16
            refine V_ldc_w (v := (-1000000 : Int32)) dX12_owes_42 (gt_6 188 rfl rfl) ?_
            exact V_iret dX12_owes_45 ⟨_, rfl, rfl⟩ rfl rfl ⟨_, _, _, rfl, rfl, k⟩
set_option maxHeartbeats 4000000 in
set_option maxRecDepth 20000 in
theorem wX12_owes_83 {E : aE} {P : Int32 → hI_ → hJ_ → Prop} {I : hI_} {J : hJ_} {v1 : Int32} {v2 : Int32} {v3 : Int32} {v5 : Int32} {v6 : Int32} (k : (((I 82 282) ≤ v6 → P v5 I J) ∧ (¬ ((I 82 282) ≤ v6) → (inD v6 (1 : Int32)) ∧ (inC (snt I v6 (1 : Int32)) (0 : Int32)) ∧ (vp_in v6 24) ∧ CallI E mX12_news [.ref 68, .int (its I (snt I v6 (1 : Int32)) (0 : Int32)), .int v2, .int (I 83 v6.toNatClampNeg)] SH I J (fun x5 I6 J7 => ((v3 < x5 → HX12_owes_83 E P v1 v2 v3 (v5 + (0 : Int32)) (v6 + (1 : Int32)) I6 J7) ∧ (¬ (v3 < x5) → CallI E mX12_pays [.ref 68, .int v1, .int v6] SH I6 J7 (fun x9 I10 J11 => HX12_owes_83 E P v1 v2 v3 (v5 + x9) (v6 + (1 : Int32)) I10 J11))))))) : HX12_owes_83 E P v1 v2 v3 v5 v6 I J := by
  show V E mX12_owes (kI SH P) 83 [.ref 68, .int v1, .int v2, .int v3, .retAddr 0, .int v5, .int v6] [] (SH, I, J) (0, 0)
  refine V_iload dX12_owes_83 rfl ?_
  refine V_aload_n dX12_owes_85 rfl ?_
  refine U_callV1 [] dX12_owes_86 ov_X12_221 s_68 rfl ⟨rfl, rfl, rfl⟩ rfl rfl rfl (tX12_deals ?_)
  refine V_icmp_ge dX12_owes_89 (fun c1 => ?_) (fun c1 => ?_)
  · have k := k.1 c1
    refine V_iload dX12_owes_142 rfl ?_
    exact V_iret dX12_owes_144 ⟨_, rfl, rfl⟩ rfl rfl ⟨_, _, _, rfl, rfl, k⟩
  · have k := k.2 c1
    refine V_iload dX12_owes_92 rfl ?_
    refine V_aload_n dX12_owes_94 rfl ?_
    refine V_aload_n dX12_owes_95 rfl ?_
    refine V_aload_n dX12_owes_96 rfl ?_
    refine V_iload dX12_owes_97 rfl ?_
    refine V_iconst (v := (1 : Int32)) dX12_owes_99 rfl ?_
    obtain ⟨hp2, k⟩ := k
    refine U_callV1 [.int v6, .int (1 : Int32)] dX12_owes_100 ov_X12_224 s_68 rfl ⟨rfl, rfl, rfl⟩ rfl rfl rfl (tX12_sent4 hp2 ?_)
    refine V_iconst (v := (0 : Int32)) dX12_owes_103 rfl ?_
    obtain ⟨hp3, k⟩ := k
    refine U_callV1 [.int (snt I v6 (1 : Int32)), .int (0 : Int32)] dX12_owes_104 ov_X12_202 s_68 rfl ⟨rfl, rfl, rfl⟩ rfl rfl rfl (tX12_its hp3 ?_)
    refine V_iload_n dX12_owes_107 rfl ?_
    refine V_aload_n dX12_owes_108 rfl ?_
    refine U_getR dX12_owes_109 fl_X12_52 s_68 rfl ?_
    refine V_iload dX12_owes_112 rfl ?_
    obtain ⟨hb4, k⟩ := k
    refine U_iald dX12_owes_114 s_83 hb4 ?_
    refine U_callV1 [.int (its I (snt I v6 (1 : Int32)) (0 : Int32)), .int v2, .int (I 83 v6.toNatClampNeg)] dX12_owes_115 ov_X12_182 s_68 rfl ⟨rfl, rfl, rfl⟩ rfl rfl rfl (CallI_mono k (fun x5 I6 J7 k => ?_))
    refine V_iload_n dX12_owes_118 rfl ?_
    refine V_icmp_gt dX12_owes_119 (fun c8 => ?_) (fun c8 => ?_)
    · have k := k.1 c8
      refine V_iconst (v := (0 : Int32)) dX12_owes_132 rfl ?_
      refine V_iadd dX12_owes_133 ?_
      refine U_istore (L2 := [.ref 68, .int v1, .int v2, .int v3, .retAddr 0, .int (v5 + (0 : Int32)), .int v6]) dX12_owes_134 (by decide) rfl ?_
      refine U_iinc (v := v6 + (1 : Int32)) (L2 := [.ref 68, .int v1, .int v2, .int v3, .retAddr 0, .int (v5 + (0 : Int32)), .int (v6 + (1 : Int32))]) dX12_owes_136 (by decide) rfl rfl rfl ?_
      refine V_goto dX12_owes_139 ?_
      exact k
    · have k := k.2 c8
      refine V_aload_n dX12_owes_122 rfl ?_
      refine V_iload_n dX12_owes_123 rfl ?_
      refine V_iload dX12_owes_124 rfl ?_
      refine U_callV1 [.int v1, .int v6] dX12_owes_126 ov_X12_245 s_68 rfl ⟨rfl, rfl, rfl⟩ rfl rfl rfl (CallI_mono k (fun x9 I10 J11 k => ?_))
      refine V_goto dX12_owes_129 ?_
      refine V_iadd dX12_owes_133 ?_
      refine U_istore (L2 := [.ref 68, .int v1, .int v2, .int v3, .retAddr 0, .int (v5 + x9), .int v6]) dX12_owes_134 (by decide) rfl ?_
      refine U_iinc (v := v6 + (1 : Int32)) (L2 := [.ref 68, .int v1, .int v2, .int v3, .retAddr 0, .int (v5 + x9), .int (v6 + (1 : Int32))]) dX12_owes_136 (by decide) rfl rfl rfl ?_
      refine V_goto dX12_owes_139 ?_
      exact k
theorem knownM_loop {E : aE} {P : Int32 → hI_ → hJ_ → Prop} {I0 : hI_} {J : hJ_} {p b t : Nat} (h : Rel I0) (hb : b < nP I0) (ht : t < 100000) (k : ∀ I2, agM I0 I2 → P (dbk I0 p b t (nD I0)) I2 J) : ∀ (m n : Nat) (I : hI_), n + m = nD I0 → SM I0 I (fun _ => true) → HX12_owes_83 E P (nI p) (nI b) (nI t) (dbk I0 p b t n) (nI n) I J
  | 0, n, I, hn, hs => by
    have hD := Rel_D h
    have e : n = nD I0 := by omega
    refine wX12_owes_83 ?_
    rw [hs.1.1 82 rfl, hD.2.1, e]
    exact ⟨fun _ => k I hs.1, fun z => absurd (nI_le (Nat.le_refl _) (by omega)) z⟩
  | m + 1, n, I, hn, hs => by
    have hD := Rel_D h
    have hC := Rel_C h
    have hPl := Rel_P h
    have hnn : n < nD I0 := by omega
    have ok := deal_ok h hnn
    have hR := Rel_agM hs.1 h
    have hq := cK_q h ok.2.1.2
    have e0 : its I (nI (cD I0 n)) 0 = nI (qN I0 (cD I0 n)) := by
      refine (its_cK (I := I) (j := 0) (by omega) (by omega)).trans ?_
      rw [← hq.1]; exact cK_M hs.1 _ 0
    have rc := fun I2 h2 => knownM_loop (E := E) h hb ht k m (n + 1) I2 (by omega) h2
    rw [dbk_s] at rc
    refine wX12_owes_83 ?_
    rw [hs.1.1 82 rfl, hD.2.1, (snt_M h hs.1 hnn).2.1, nI_clamp (by omega), (hs.2.1 n hnn).1, e0, nI_1]
    refine ⟨fun z => absurd z (nI_ge (by omega) (by omega)), fun _ => ⟨inD_nI (j := 1) (by omega) (by omega), inC_nI (j := 0) (by omega) (by omega), vp_in_nI (by omega) (by omega), ?_⟩⟩
    refine tX12_news hR (by omega) (by omega) (by omega) (fun I2 hag => ?_)
    have al := @arr_le (wI I0) (qN I0 (cD I0 n)) (aD I0 n) b
    rw [wI_M hs.1, nI_ltJ (by omega) (by omega)]
    have hs2 := SM_ag hs hag
    refine ⟨fun z => ?_, fun z => ?_⟩
    · rw [if_pos z] at rc
      rw [Int32.add_zero]; exact rc I2 hs2
    · rw [if_neg z] at rc
      exact tX12_pays h hs2 hnn (rc I2 hs2)
theorem op_owes {E : aE} {I : hI_} {J : hJ_} {P : hI_ → hJ_ → Prop} {a0 a1 a2 a3 : Int32} (h : Rel I) (hP : ∀ I2 J2, Rel I2 → P I2 J2) : Op2 E mX11_owes mX12_owes [.int a0, .int a1, .int a2, .int a3] I J P := by
  have hp := Rel_P h
  have e := Rel_pl h
  have kI := hP I J h
  have bad : ¬ ((0 ≤ a0 ∧ a0 ≤ I 73 0 - 1) ∧ (0 ≤ a2 ∧ a2 ≤ 999) ∧ (0 ≤ a3 ∧ a3 ≤ 2) ∧ (a3 = 1 → (0 ≤ a1 ∧ a1 ≤ I 73 0 - 1))) → CallI E mX12_owes [.ref 68, .int a0, .int a1, .int a2, .int a3] SH I J (fun r2 I2 J2 => (-1000000 : Int32) = r2 ∧ P I2 J2) := fun hb => wX12_owes ⟨fun _ => ⟨rfl, kI⟩, fun d1 => ⟨fun _ => ⟨rfl, kI⟩, fun d2 => ⟨fun _ => ⟨rfl, kI⟩, fun d3 => ⟨fun d4 => absurd ⟨d1, d2, d3, fun z => absurd z d4⟩ hb, fun d4 => ⟨fun d5 => absurd ⟨d1, d2, d3, fun _ => d5⟩ hb, fun _ => ⟨rfl, kI⟩⟩⟩⟩⟩⟩
  refine wX11_owes ⟨fun c1 => bad (fun z => c1 (by rw [e]; exact z.1)), fun c1 => ⟨fun c2 => bad (fun z => c2 z.2.1), fun c2 => ⟨fun c3 => bad (fun z => c3 z.2.2.1), fun c3 => ?_⟩⟩⟩
  rw [e] at c1 ⊢
  have c1' := c1
  rw [hp.2.1] at c1'
  obtain ⟨x, hx, rfl⟩ := in_lt (by omega) c1'
  obtain ⟨t, ht, rfl⟩ := in999 c2
  refine ⟨fun c4 => ?_, fun c4 => ⟨fun c5 => ?_, fun c5 => bad (fun z => c5 (z.2.2.2 c4))⟩⟩
  · refine tX7_settle h (fun I2 hs => ?_)
    have hR := Rel_agX hs.1 h
    have d1 : 0 ≤ nI x ∧ nI x ≤ I2 73 0 - 1 := by rw [hs.1 73 rfl]; exact c1
    refine ⟨fun z => ?_, fun z => absurd z c4, fun z => ?_⟩
    · refine tX7_debt h hs (by omega) ?_
      refine wX12_owes ⟨fun d => absurd d1 d, fun _ => ⟨fun d => absurd c2 d, fun _ => ⟨fun d => absurd c3 d, fun _ => ⟨fun _ => ?_, fun d => absurd d c4⟩⟩⟩⟩
      refine tX12_layStruck hR (fun I4 hm => ⟨fun d => absurd d c4, fun _ => ⟨fun d => absurd z d, fun _ => ?_⟩⟩)
      refine tX12_owed hR hm (by omega) ⟨?_, hP I4 J (Rel_agM hm.1 hR)⟩
      rw [dbt_X hs.1, nD_X hs.1]
    · refine tX7_debtAtMost h hs (by omega) ?_
      refine wX12_owes ⟨fun d => absurd d1 d, fun _ => ⟨fun d => absurd c2 d, fun _ => ⟨fun d => absurd c3 d, fun _ => ⟨fun _ => ?_, fun d => absurd d c4⟩⟩⟩⟩
      refine tX12_layStruck hR (fun I4 hm => ⟨fun d => absurd d c4, fun _ => ⟨fun _ => ?_, fun d => absurd d z.1⟩⟩)
      refine tX12_atMost hR hm (by omega) ⟨?_, hP I4 J (Rel_agM hm.1 hR)⟩
      rw [dbm_X hs.1, nC_X hs.1]
  · have c5' := c5
    rw [hp.2.1] at c5'
    obtain ⟨y, hy, rfl⟩ := in_lt (by omega) c5'
    refine tX7_settle h (fun I2 hs => ⟨fun z => absurd (z.symm.trans c4) (by decide), fun _ => ?_, fun z => absurd c4 z.2⟩)
    refine tX7_debtKnown h hs hy (by omega) (fun I3 hag => ?_)
    have hR := Rel_agX hag h
    have d1 : 0 ≤ nI x ∧ nI x ≤ I3 73 0 - 1 := by rw [hag 73 rfl]; exact c1
    have d5 : 0 ≤ nI y ∧ nI y ≤ I3 73 0 - 1 := by rw [hag 73 rfl]; exact c5
    refine wX12_owes ⟨fun d => absurd d1 d, fun _ => ⟨fun d => absurd c2 d, fun _ => ⟨fun d => absurd c3 d, fun _ => ⟨fun d => absurd c4 d, fun _ => ⟨fun _ => ?_, fun d => absurd d5 d⟩⟩⟩⟩⟩
    refine tX12_layStruck hR (fun I4 hm => ⟨fun _ => ?_, fun d => absurd c4 d⟩)
    refine knownM_loop hR (by rw [nP_X hag]; exact hy) (by omega) (fun I5 hag5 => ⟨?_, hP I5 J (Rel_agM hag5 hR)⟩) (nD I3) 0 I4 (by omega) hm
    rw [dbk_X hag, nD_X hag]
/-- who would be over the most -/
noncomputable def ovS (I : hI_) (t : Nat) : Nat → Int32
  | 0 => 0
  | n + 1 => if dbm I n t (nC I) ≤ I 73 7 then ovS I t n else ovS I t n ||| (1 <<< (nI n &&& 31))
theorem ovS_s (I : hI_) (t n : Nat) : ovS I t (n + 1) = if dbm I n t (nC I) ≤ I 73 7 then ovS I t n else ovS I t n ||| (1 <<< (nI n &&& 31)) := rfl
theorem ovS_X {I I2 : hI_} (h : agX I I2) (t : Nat) : ∀ n, ovS I2 t n = ovS I t n
  | 0 => rfl
  | n + 1 => by rw [ovS_s, ovS_s, ovS_X h t n, dbm_X h, nC_X h, h 73 rfl]
theorem Rel_most {I : hI_} (h : Rel I) : I 3 10 = I 73 7 := h.2.1.2.2.2.2.2.2.1.1
def HX11_over_20 (E : aE) (P : Int32 → hI_ → hJ_ → Prop) (v1 : Int32) (v2 : Int32) (v3 : Int32) (I : hI_) (J : hJ_) : Prop := V E mX11_over (kI SH P) 20 [.ref 0, .int v1, .int v2, .int v3] [] (SH, I, J) (0, 0)
set_option maxHeartbeats 4000000 in
set_option maxRecDepth 20000 in
theorem wX11_over {E : aE} {P : Int32 → hI_ → hJ_ → Prop} {I : hI_} {J : hJ_} {a0 : Int32} (k : (((0 ≤ a0 ∧ a0 ≤ 999) → CallV E mX7_settle [.ref 29] SH I J (fun I3 J4 => HX11_over_20 E P a0 (0 : Int32) (0 : Int32) I3 J4)) ∧ (¬ ((0 ≤ a0 ∧ a0 ≤ 999)) → P (-1 : Int32) I J))) : CallI E mX11_over [.ref 0, .int a0] SH I J P := by
  refine Call_of (L := [.ref 0, .int a0, .retAddr 0, .retAddr 0]) ok_X11_over.1 rfl rfl ?_
  refine V_iload_n dX11_over_0 rfl ?_
  refine U_callS1 [.int a0] dX11_over_1 os_X11_159 ⟨rfl, rfl, rfl⟩ rfl rfl rfl (tX11_isMinute ?_)
  refine U_ifb_ne dX11_over_4 (fun c1 => ?_) (fun c1 => ?_)
  · have k := k.1 c1
    refine V_aload_n dX11_over_9 rfl ?_
    refine U_getR dX11_over_10 fl_X11_60 s_0 rfl ?_
    refine U_callV0 [] dX11_over_13 ov_X11_215 s_29 rfl ⟨rfl, rfl, rfl⟩ rfl rfl rfl (CallV_mono k (fun I3 J4 k => ?_))
    refine V_iconst (v := (0 : Int32)) dX11_over_16 rfl ?_
    refine U_istore_n (L2 := [.ref 0, .int a0, .int (0 : Int32), .retAddr 0]) dX11_over_17 (by decide) rfl ?_
    refine V_iconst (v := (0 : Int32)) dX11_over_18 rfl ?_
    refine U_istore_n (L2 := [.ref 0, .int a0, .int (0 : Int32), .int (0 : Int32)]) dX11_over_19 (by decide) rfl ?_
    exact k
  · have k := k.2 c1
    refine V_iconst (v := (-1 : Int32)) dX11_over_7 rfl ?_
    exact V_iret dX11_over_8 ⟨_, rfl, rfl⟩ rfl rfl ⟨_, _, _, rfl, rfl, k⟩
set_option maxHeartbeats 4000000 in
set_option maxRecDepth 20000 in
theorem wX11_over_20 {E : aE} {P : Int32 → hI_ → hJ_ → Prop} {I : hI_} {J : hJ_} {v1 : Int32} {v2 : Int32} {v3 : Int32} (k : (((I 3 6) ≤ v3 → P v2 I J) ∧ (¬ ((I 3 6) ≤ v3) → CallI E mX7_debtAtMost [.ref 29, .int v3, .int v1] SH I J (fun x2 I3 J4 => HX11_over_20 E P v1 (if x2 ≤ (I3 3 10) then v2 else (v2 ||| ((1 : Int32) <<< (v3 &&& 31)))) (v3 + (1 : Int32)) I3 J4)))) : HX11_over_20 E P v1 v2 v3 I J := by
  show V E mX11_over (kI SH P) 20 [.ref 0, .int v1, .int v2, .int v3] [] (SH, I, J) (0, 0)
  refine V_iload_n dX11_over_20 rfl ?_
  refine V_aload_n dX11_over_21 rfl ?_
  refine U_getR dX11_over_22 fl_X11_19 s_0 rfl ?_
  refine U_getI dX11_over_25 fl_X11_129 s_3 rfl ?_
  refine V_icmp_ge dX11_over_28 (fun c1 => ?_) (fun c1 => ?_)
  · have k := k.1 c1
    refine V_iload_n dX11_over_62 rfl ?_
    exact V_iret dX11_over_63 ⟨_, rfl, rfl⟩ rfl rfl ⟨_, _, _, rfl, rfl, k⟩
  · have k := k.2 c1
    refine V_aload_n dX11_over_31 rfl ?_
    refine U_getR dX11_over_32 fl_X11_60 s_0 rfl ?_
    refine V_iload_n dX11_over_35 rfl ?_
    refine V_iload_n dX11_over_36 rfl ?_
    refine U_callV1 [.int v3, .int v1] dX11_over_37 ov_X11_272 s_29 rfl ⟨rfl, rfl, rfl⟩ rfl rfl rfl (CallI_mono k (fun x2 I3 J4 k => ?_))
    refine V_aload_n dX11_over_40 rfl ?_
    refine U_getR dX11_over_41 fl_X11_19 s_0 rfl ?_
    refine U_getI dX11_over_44 fl_X11_145 s_3 rfl ?_
    have key5 : ∀ (y2006 : Int32), y2006 = (if x2 ≤ (I3 3 10) then v2 else (v2 ||| ((1 : Int32) <<< (v3 &&& 31)))) → V E mX11_over (kI SH P) 56 [.ref 0, .int v1, .int y2006, .int v3] [] (SH, I3, J4) (0, 0) := by
      intro y2006 ey2006
      subst ey2006
      refine U_iinc (v := v3 + (1 : Int32)) (L2 := [.ref 0, .int v1, .int (if x2 ≤ (I3 3 10) then v2 else (v2 ||| ((1 : Int32) <<< (v3 &&& 31)))), .int (v3 + (1 : Int32))]) dX11_over_56 (by decide) rfl rfl rfl ?_
      refine V_goto dX11_over_59 ?_
      exact k
    refine V_icmp_le dX11_over_47 (fun c2007 => ?_) (fun c2007 => ?_)
    · exact key5 _ (by rw [if_pos c2007])
    · refine V_iload_n dX11_over_50 rfl ?_
      refine V_iconst (v := (1 : Int32)) dX11_over_51 rfl ?_
      refine V_iload_n dX11_over_52 rfl ?_
      refine V_ishl dX11_over_53 ?_
      refine V_ior dX11_over_54 ?_
      refine U_istore_n (L2 := [.ref 0, .int v1, .int (v2 ||| ((1 : Int32) <<< (v3 &&& 31))), .int v3]) dX11_over_55 (by decide) rfl ?_
      exact key5 _ (by rw [if_neg c2007])
def HX12_over_17 (E : aE) (P : Int32 → hI_ → hJ_ → Prop) (v1 : Int32) (v2 : Int32) (v3 : Int32) (I : hI_) (J : hJ_) : Prop := V E mX12_over (kI SH P) 17 [.ref 68, .int v1, .int v2, .int v3] [] (SH, I, J) (0, 0)
set_option maxHeartbeats 4000000 in
set_option maxRecDepth 20000 in
theorem wX12_over {E : aE} {P : Int32 → hI_ → hJ_ → Prop} {I : hI_} {J : hJ_} {a0 : Int32} (k : (((0 ≤ a0 ∧ a0 ≤ 999) → CallV E mX12_layStruck [.ref 68] SH I J (fun I3 J4 => HX12_over_17 E P a0 (0 : Int32) (0 : Int32) I3 J4)) ∧ (¬ ((0 ≤ a0 ∧ a0 ≤ 999)) → P (-1 : Int32) I J))) : CallI E mX12_over [.ref 68, .int a0] SH I J P := by
  refine Call_of (L := [.ref 68, .int a0, .retAddr 0, .retAddr 0]) ok_X12_over.1 rfl rfl ?_
  refine V_iload_n dX12_over_0 rfl ?_
  refine U_callS1 [.int a0] dX12_over_1 os_X12_179 ⟨rfl, rfl, rfl⟩ rfl rfl rfl (tX12_isMinute ?_)
  refine U_ifb_ne dX12_over_4 (fun c1 => ?_) (fun c1 => ?_)
  · have k := k.1 c1
    refine V_aload_n dX12_over_9 rfl ?_
    refine U_callV0 [] dX12_over_10 ov_X12_218 s_68 rfl ⟨rfl, rfl, rfl⟩ rfl rfl rfl (CallV_mono k (fun I3 J4 k => ?_))
    refine V_iconst (v := (0 : Int32)) dX12_over_13 rfl ?_
    refine U_istore_n (L2 := [.ref 68, .int a0, .int (0 : Int32), .retAddr 0]) dX12_over_14 (by decide) rfl ?_
    refine V_iconst (v := (0 : Int32)) dX12_over_15 rfl ?_
    refine U_istore_n (L2 := [.ref 68, .int a0, .int (0 : Int32), .int (0 : Int32)]) dX12_over_16 (by decide) rfl ?_
    exact k
  · have k := k.2 c1
    refine V_iconst (v := (-1 : Int32)) dX12_over_7 rfl ?_
    exact V_iret dX12_over_8 ⟨_, rfl, rfl⟩ rfl rfl ⟨_, _, _, rfl, rfl, k⟩
set_option maxHeartbeats 4000000 in
set_option maxRecDepth 20000 in
theorem wX12_over_17 {E : aE} {P : Int32 → hI_ → hJ_ → Prop} {I : hI_} {J : hJ_} {v1 : Int32} {v2 : Int32} {v3 : Int32} (k : (((I 73 0) ≤ v3 → P v2 I J) ∧ (¬ ((I 73 0) ≤ v3) → CallI E mX12_atMost [.ref 68, .int v3, .int v1] SH I J (fun x2 I3 J4 => HX12_over_17 E P v1 (v2 ||| (if x2 ≤ (I3 73 7) then (0 : Int32) else ((1 : Int32) <<< (v3 &&& 31)))) (v3 + (1 : Int32)) I3 J4)))) : HX12_over_17 E P v1 v2 v3 I J := by
  show V E mX12_over (kI SH P) 17 [.ref 68, .int v1, .int v2, .int v3] [] (SH, I, J) (0, 0)
  refine V_iload_n dX12_over_17 rfl ?_
  refine V_aload_n dX12_over_18 rfl ?_
  refine U_getR dX12_over_19 fl_X12_22 s_68 rfl ?_
  refine V_iconst (v := (0 : Int32)) dX12_over_22 rfl ?_
  refine U_ialdx (x := I 73 0) dX12_over_23 s_73 (by unfold vp_in; decide) rfl ?_
  refine V_icmp_ge dX12_over_24 (fun c1 => ?_) (fun c1 => ?_)
  · have k := k.1 c1
    refine V_iload_n dX12_over_59 rfl ?_
    exact V_iret dX12_over_60 ⟨_, rfl, rfl⟩ rfl rfl ⟨_, _, _, rfl, rfl, k⟩
  · have k := k.2 c1
    refine V_iload_n dX12_over_27 rfl ?_
    refine V_aload_n dX12_over_28 rfl ?_
    refine V_iload_n dX12_over_29 rfl ?_
    refine V_iload_n dX12_over_30 rfl ?_
    refine U_callV1 [.int v3, .int v1] dX12_over_31 ov_X12_272 s_68 rfl ⟨rfl, rfl, rfl⟩ rfl rfl rfl (CallI_mono k (fun x2 I3 J4 k => ?_))
    refine V_aload_n dX12_over_34 rfl ?_
    refine U_getR dX12_over_35 fl_X12_22 s_68 rfl ?_
    refine V_bipush (v := (7 : Int32)) dX12_over_38 rfl ?_
    refine U_ialdx (x := I3 73 7) dX12_over_40 s_73 (by unfold vp_in; decide) rfl ?_
    have key5 : ∀ (y2006 : Int32), y2006 = (if x2 ≤ (I3 73 7) then (0 : Int32) else ((1 : Int32) <<< (v3 &&& 31))) → V E mX12_over (kI SH P) 51 [.ref 68, .int v1, .int v2, .int v3] [.int y2006, .int v2] (SH, I3, J4) (0, 0) := by
      intro y2006 ey2006
      subst ey2006
      refine V_ior dX12_over_51 ?_
      refine U_istore_n (L2 := [.ref 68, .int v1, .int (v2 ||| (if x2 ≤ (I3 73 7) then (0 : Int32) else ((1 : Int32) <<< (v3 &&& 31)))), .int v3]) dX12_over_52 (by decide) rfl ?_
      refine U_iinc (v := v3 + (1 : Int32)) (L2 := [.ref 68, .int v1, .int (v2 ||| (if x2 ≤ (I3 73 7) then (0 : Int32) else ((1 : Int32) <<< (v3 &&& 31)))), .int (v3 + (1 : Int32))]) dX12_over_53 (by decide) rfl rfl rfl ?_
      refine V_goto dX12_over_56 ?_
      exact k
    refine V_icmp_le dX12_over_41 (fun c2007 => ?_) (fun c2007 => ?_)
    · refine V_iconst (v := (0 : Int32)) dX12_over_50 rfl ?_
      exact key5 _ (by rw [if_pos c2007])
    · refine V_iconst (v := (1 : Int32)) dX12_over_44 rfl ?_
      refine V_iload_n dX12_over_45 rfl ?_
      refine V_ishl dX12_over_46 ?_
      refine V_goto dX12_over_47 ?_
      exact key5 _ (by rw [if_neg c2007])
theorem overX_loop {E : aE} {P : Int32 → hI_ → hJ_ → Prop} {I0 I : hI_} {J : hJ_} {t : Nat} (h : Rel I0) (hs : SX I0 I (fun _ => true)) (ht : t < 100000) (k : P (ovS I0 t (nP I0)) I J) : ∀ (m n : Nat), n + m = nP I0 → HX11_over_20 E P (nI t) (ovS I0 t n) (nI n) I J
  | 0, n, hn => by
    have hp := Rel_P h
    have e : n = nP I0 := by omega
    refine wX11_over_20 ?_
    rw [hs.1 3 rfl, hp.1, e]
    exact ⟨fun _ => k, fun z => absurd (nI_le (Nat.le_refl _) (by omega)) z⟩
  | m + 1, n, hn => by
    have hp := Rel_P h
    have rc := overX_loop (E := E) h hs ht k m (n + 1) (by omega)
    rw [ovS_s] at rc
    refine wX11_over_20 ?_
    rw [hs.1 3 rfl, hp.1, nI_1 n]
    refine ⟨fun z => absurd z (nI_ge (by omega) (by omega)), fun _ => tX7_debtAtMost h hs ht ?_⟩
    rw [hs.1 3 rfl, Rel_most h]
    exact rc
theorem overM_loop {E : aE} {P : Int32 → hI_ → hJ_ → Prop} {I0 I : hI_} {J : hJ_} {t : Nat} (h : Rel I0) (hs : SM I0 I (fun _ => true)) (ht : t < 100000) (k : P (ovS I0 t (nP I0)) I J) : ∀ (m n : Nat), n + m = nP I0 → HX12_over_17 E P (nI t) (ovS I0 t n) (nI n) I J
  | 0, n, hn => by
    have hp := Rel_P h
    have e : n = nP I0 := by omega
    refine wX12_over_17 ?_
    rw [hs.1.1 73 rfl, hp.2.1, e]
    exact ⟨fun _ => k, fun z => absurd (nI_le (Nat.le_refl _) (by omega)) z⟩
  | m + 1, n, hn => by
    have hp := Rel_P h
    have rc := overM_loop (E := E) h hs ht k m (n + 1) (by omega)
    rw [ovS_s] at rc
    refine wX12_over_17 ?_
    rw [hs.1.1 73 rfl, hp.2.1, nI_1 n]
    refine ⟨fun z => absurd z (nI_ge (by omega) (by omega)), fun _ => tX12_atMost h hs ht ?_⟩
    rw [hs.1.1 73 rfl]
    by_cases y : dbm I0 n t (nC I0) ≤ I0 73 7
    · rw [if_pos y, Int32.or_zero]
      rw [if_pos y] at rc; exact rc
    · rw [if_neg y]
      rw [if_neg y] at rc; exact rc
theorem op_over {E : aE} {I : hI_} {J : hJ_} {P : hI_ → hJ_ → Prop} {a0 : Int32} (h : Rel I) (hP : ∀ I2 J2, Rel I2 → P I2 J2) : Op2 E mX11_over mX12_over [.int a0] I J P := by
  refine wX11_over ⟨fun c1 => ?_, fun c1 => wX12_over ⟨fun d => absurd d c1, fun _ => ⟨rfl, hP I J h⟩⟩⟩
  have c1' := c1
  obtain ⟨t, ht, rfl⟩ := in999 c1'
  refine tX7_settle h (fun I2 hs => overX_loop h hs (by omega) ?_ (nP I) 0 (by omega))
  have hR := Rel_agX hs.1 h
  refine wX12_over ⟨fun _ => ?_, fun d => absurd c1 d⟩
  refine tX12_layStruck hR (fun I4 hm => overM_loop hR hm (by omega) ⟨?_, hP I4 J (Rel_agM hm.1 hR)⟩ (nP I2) 0 (by omega))
  rw [ovS_X hs.1, nP_X hs.1]
