set_option maxHeartbeats 4000000 in
set_option maxRecDepth 20000 in
theorem wX11_fault {E : aE} {P : Int32 → hI_ → hJ_ → Prop} {I : hI_} {J : hJ_}  (k : P (I 0 12) I J) : CallI E mX11_fault [.ref 0] SH I J P := by
  refine Call_of (L := [.ref 0]) ok_X11_fault.1 rfl rfl ?_
  refine V_aload_n dX11_fault_0 rfl ?_
  refine U_getI dX11_fault_1 fl_X11_115 s_0 rfl ?_
  exact V_iret dX11_fault_4 ⟨_, rfl, rfl⟩ rfl rfl ⟨_, _, _, rfl, rfl, k⟩
set_option maxHeartbeats 4000000 in
set_option maxRecDepth 20000 in
theorem wX12_fault {E : aE} {P : Int32 → hI_ → hJ_ → Prop} {I : hI_} {J : hJ_}  (k : P (I 68 2) I J) : CallI E mX12_fault [.ref 68] SH I J P := by
  refine Call_of (L := [.ref 68]) ok_X12_fault.1 rfl rfl ?_
  refine V_aload_n dX12_fault_0 rfl ?_
  refine U_getI dX12_fault_1 fl_X12_160 s_68 rfl ?_
  exact V_iret dX12_fault_4 ⟨_, rfl, rfl⟩ rfl rfl ⟨_, _, _, rfl, rfl, k⟩
theorem op_fault {E : aE} {I : hI_} {J : hJ_} {P : hI_ → hJ_ → Prop} (h : Rel I) (hP : ∀ I2 J2, Rel I2 → P I2 J2) : Op2 E mX11_fault mX12_fault [] I J P := wX11_fault (wX12_fault ⟨h.2.2.2.2.2.2.2.1, hP I J h⟩)
set_option maxHeartbeats 4000000 in
set_option maxRecDepth 20000 in
theorem wX11_torn {E : aE} {P : Int32 → hI_ → hJ_ → Prop} {I : hI_} {J : hJ_}  (k : P (I 0 13) I J) : CallI E mX11_torn [.ref 0] SH I J P := by
  refine Call_of (L := [.ref 0]) ok_X11_torn.1 rfl rfl ?_
  refine V_aload_n dX11_torn_0 rfl ?_
  refine U_getI dX11_torn_1 fl_X11_340 s_0 rfl ?_
  exact V_iret dX11_torn_4 ⟨_, rfl, rfl⟩ rfl rfl ⟨_, _, _, rfl, rfl, k⟩
set_option maxHeartbeats 4000000 in
set_option maxRecDepth 20000 in
theorem wX12_torn {E : aE} {P : Int32 → hI_ → hJ_ → Prop} {I : hI_} {J : hJ_}  (k : P (I 68 37) I J) : CallI E mX12_torn [.ref 68] SH I J P := by
  refine Call_of (L := [.ref 68]) ok_X12_torn.1 rfl rfl ?_
  refine V_aload_n dX12_torn_0 rfl ?_
  refine U_getI dX12_torn_1 fl_X12_305 s_68 rfl ?_
  exact V_iret dX12_torn_4 ⟨_, rfl, rfl⟩ rfl rfl ⟨_, _, _, rfl, rfl, k⟩
theorem op_torn {E : aE} {I : hI_} {J : hJ_} {P : hI_ → hJ_ → Prop} (h : Rel I) (hP : ∀ I2 J2, Rel I2 → P I2 J2) : Op2 E mX11_torn mX12_torn [] I J P := wX11_torn (wX12_torn ⟨h.2.2.2.2.2.2.2.2, hP I J h⟩)
set_option maxHeartbeats 4000000 in
set_option maxRecDepth 20000 in
theorem wX11_told {E : aE} {P : Int32 → hI_ → hJ_ → Prop} {I : hI_} {J : hJ_} {a0 : Int32} (k : ((a0 = (0 : Int32) → P (I 3 6) I J) ∧ (a0 = (1 : Int32) → P (I 3 7) I J) ∧ (a0 = (2 : Int32) → P (I 3 8) I J) ∧ (a0 = (3 : Int32) → (vp_in (a0 - (3 : Int32)) 3) ∧ P (I 9 (a0 - (3 : Int32)).toNatClampNeg) I J) ∧ (a0 = (4 : Int32) → (vp_in (a0 - (3 : Int32)) 3) ∧ P (I 9 (a0 - (3 : Int32)).toNatClampNeg) I J) ∧ (a0 = (5 : Int32) → (vp_in (a0 - (3 : Int32)) 3) ∧ P (I 9 (a0 - (3 : Int32)).toNatClampNeg) I J) ∧ (a0 = (6 : Int32) → P (I 3 9) I J) ∧ (a0 = (7 : Int32) → P (I 3 10) I J) ∧ ((¬ a0 = (0 : Int32) ∧ ¬ a0 = (1 : Int32) ∧ ¬ a0 = (2 : Int32) ∧ ¬ a0 = (3 : Int32) ∧ ¬ a0 = (4 : Int32) ∧ ¬ a0 = (5 : Int32) ∧ ¬ a0 = (6 : Int32) ∧ ¬ a0 = (7 : Int32)) → P (-1 : Int32) I J))) : CallI E mX11_told [.ref 0, .int a0] SH I J P := by
  refine Call_of (L := [.ref 0, .int a0]) ok_X11_told.1 rfl rfl ?_
  refine V_iload_n dX11_told_0 rfl ?_
  by_cases c1 : a0 = (0 : Int32)
  · refine V_tabIn (off := 47) (tgt := 48) dX11_told_1 (by rw [c1]; decide) (by rw [c1]; decide) (by rw [c1]; rfl) rfl ?_
    have k := k.1 c1
    refine V_aload_n dX11_told_48 rfl ?_
    refine U_getR dX11_told_49 fl_X11_19 s_0 rfl ?_
    refine U_getI dX11_told_52 fl_X11_129 s_3 rfl ?_
    exact V_iret dX11_told_55 ⟨_, rfl, rfl⟩ rfl rfl ⟨_, _, _, rfl, rfl, k⟩
  by_cases c2 : a0 = (1 : Int32)
  · refine V_tabIn (off := 55) (tgt := 56) dX11_told_1 (by rw [c2]; decide) (by rw [c2]; decide) (by rw [c2]; rfl) rfl ?_
    have k := k.2.1 c2
    refine V_aload_n dX11_told_56 rfl ?_
    refine U_getR dX11_told_57 fl_X11_19 s_0 rfl ?_
    refine U_getI dX11_told_60 fl_X11_132 s_3 rfl ?_
    exact V_iret dX11_told_63 ⟨_, rfl, rfl⟩ rfl rfl ⟨_, _, _, rfl, rfl, k⟩
  by_cases c3 : a0 = (2 : Int32)
  · refine V_tabIn (off := 63) (tgt := 64) dX11_told_1 (by rw [c3]; decide) (by rw [c3]; decide) (by rw [c3]; rfl) rfl ?_
    have k := k.2.2.1 c3
    refine V_aload_n dX11_told_64 rfl ?_
    refine U_getR dX11_told_65 fl_X11_19 s_0 rfl ?_
    refine U_getI dX11_told_68 fl_X11_135 s_3 rfl ?_
    exact V_iret dX11_told_71 ⟨_, rfl, rfl⟩ rfl rfl ⟨_, _, _, rfl, rfl, k⟩
  by_cases c5 : a0 = (3 : Int32)
  · refine V_tabIn (off := 71) (tgt := 72) dX11_told_1 (by rw [c5]; decide) (by rw [c5]; decide) (by rw [c5]; rfl) rfl ?_
    have k := k.2.2.2.1 c5
    refine V_aload_n dX11_told_72 rfl ?_
    refine U_getR dX11_told_73 fl_X11_19 s_0 rfl ?_
    refine U_getR dX11_told_76 fl_X11_138 s_3 rfl ?_
    refine V_iload_n dX11_told_79 rfl ?_
    refine V_iconst (v := (3 : Int32)) dX11_told_80 rfl ?_
    refine V_isub dX11_told_81 ?_
    obtain ⟨hb4, k⟩ := k
    refine U_iald dX11_told_82 s_9 hb4 ?_
    exact V_iret dX11_told_83 ⟨_, rfl, rfl⟩ rfl rfl ⟨_, _, _, rfl, rfl, k⟩
  by_cases c7 : a0 = (4 : Int32)
  · refine V_tabIn (off := 71) (tgt := 72) dX11_told_1 (by rw [c7]; decide) (by rw [c7]; decide) (by rw [c7]; rfl) rfl ?_
    have k := k.2.2.2.2.1 c7
    refine V_aload_n dX11_told_72 rfl ?_
    refine U_getR dX11_told_73 fl_X11_19 s_0 rfl ?_
    refine U_getR dX11_told_76 fl_X11_138 s_3 rfl ?_
    refine V_iload_n dX11_told_79 rfl ?_
    refine V_iconst (v := (3 : Int32)) dX11_told_80 rfl ?_
    refine V_isub dX11_told_81 ?_
    obtain ⟨hb6, k⟩ := k
    refine U_iald dX11_told_82 s_9 hb6 ?_
    exact V_iret dX11_told_83 ⟨_, rfl, rfl⟩ rfl rfl ⟨_, _, _, rfl, rfl, k⟩
  by_cases c9 : a0 = (5 : Int32)
  · refine V_tabIn (off := 71) (tgt := 72) dX11_told_1 (by rw [c9]; decide) (by rw [c9]; decide) (by rw [c9]; rfl) rfl ?_
    have k := k.2.2.2.2.2.1 c9
    refine V_aload_n dX11_told_72 rfl ?_
    refine U_getR dX11_told_73 fl_X11_19 s_0 rfl ?_
    refine U_getR dX11_told_76 fl_X11_138 s_3 rfl ?_
    refine V_iload_n dX11_told_79 rfl ?_
    refine V_iconst (v := (3 : Int32)) dX11_told_80 rfl ?_
    refine V_isub dX11_told_81 ?_
    obtain ⟨hb8, k⟩ := k
    refine U_iald dX11_told_82 s_9 hb8 ?_
    exact V_iret dX11_told_83 ⟨_, rfl, rfl⟩ rfl rfl ⟨_, _, _, rfl, rfl, k⟩
  by_cases c10 : a0 = (6 : Int32)
  · refine V_tabIn (off := 83) (tgt := 84) dX11_told_1 (by rw [c10]; decide) (by rw [c10]; decide) (by rw [c10]; rfl) rfl ?_
    have k := k.2.2.2.2.2.2.1 c10
    refine V_aload_n dX11_told_84 rfl ?_
    refine U_getR dX11_told_85 fl_X11_19 s_0 rfl ?_
    refine U_getI dX11_told_88 fl_X11_142 s_3 rfl ?_
    exact V_iret dX11_told_91 ⟨_, rfl, rfl⟩ rfl rfl ⟨_, _, _, rfl, rfl, k⟩
  by_cases c11 : a0 = (7 : Int32)
  · refine V_tabIn (off := 91) (tgt := 92) dX11_told_1 (by rw [c11]; decide) (by rw [c11]; decide) (by rw [c11]; rfl) rfl ?_
    have k := k.2.2.2.2.2.2.2.1 c11
    refine V_aload_n dX11_told_92 rfl ?_
    refine U_getR dX11_told_93 fl_X11_19 s_0 rfl ?_
    refine U_getI dX11_told_96 fl_X11_145 s_3 rfl ?_
    exact V_iret dX11_told_99 ⟨_, rfl, rfl⟩ rfl rfl ⟨_, _, _, rfl, rfl, k⟩
  · have hto := tab_out (x := a0) (lo := 0) (n := 8) (by
      intro k hk
      have hk := List.mem_range.mp hk
      rcases (show k = 0 ∨ k = 1 ∨ k = 2 ∨ k = 3 ∨ k = 4 ∨ k = 5 ∨ k = 6 ∨ k = 7 by omega) with rfl | rfl | rfl | rfl | rfl | rfl | rfl | rfl
      · exact c1
      · exact c2
      · exact c3
      · exact c5
      · exact c7
      · exact c9
      · exact c10
      · exact c11
      ) (by decide)
    refine V_tabOut (tgt := 100) dX11_told_1 rfl (by omega) ?_
    have k := k.2.2.2.2.2.2.2.2 ⟨c1, c2, c3, c5, c7, c9, c10, c11⟩
    refine V_iconst (v := (-1 : Int32)) dX11_told_100 rfl ?_
    exact V_iret dX11_told_101 ⟨_, rfl, rfl⟩ rfl rfl ⟨_, _, _, rfl, rfl, k⟩
set_option maxHeartbeats 4000000 in
set_option maxRecDepth 20000 in
theorem wX12_told {E : aE} {P : Int32 → hI_ → hJ_ → Prop} {I : hI_} {J : hJ_} {a0 : Int32} (k : ((((0 : Int32) ≤ a0 ∧ a0 ≤ (7 : Int32))) → vp_in a0 8) ∧ P (if ¬ ((0 : Int32) ≤ a0 ∧ a0 ≤ (7 : Int32)) then (-1 : Int32) else (I 73 a0.toNatClampNeg)) I J) : CallI E mX12_told [.ref 68, .int a0] SH I J P := by
  refine Call_of (L := [.ref 68, .int a0]) ok_X12_told.1 rfl rfl ?_
  refine V_iload_n dX12_told_0 rfl ?_
  refine V_i2l dX12_told_1 ?_
  refine V_lconst (v := (0 : Int64)) dX12_told_2 rfl ?_
  refine V_ldc2_w (v := (7 : Int64)) dX12_told_3 (gt_6 3 rfl rfl) ?_
  refine U_callS1 [.long a0.toInt64, .long (0 : Int64), .long (7 : Int64)] dX12_told_6 os_X12_91 ⟨rfl, rfl, rfl⟩ rfl rfl rfl (tX12_in32 (v := a0) (lo := (0 : Int32)) (hi := (7 : Int32)) rfl (by decide) (by decide) ?_)
  obtain ⟨hc2004, k⟩ := k
  have key1 : ∀ (y2003 : Int32), y2003 = (if ¬ ((0 : Int32) ≤ a0 ∧ a0 ≤ (7 : Int32)) then (-1 : Int32) else (I 73 a0.toNatClampNeg)) → V E mX12_told (kI SH P) 22 [.ref 68, .int a0] [.int y2003] (SH, I, J) (0, 0) := by
    intro y2003 ey2003
    subst ey2003
    exact V_iret dX12_told_22 ⟨_, rfl, rfl⟩ rfl rfl ⟨_, _, _, rfl, rfl, k⟩
  refine U_ifb_eq dX12_told_9 (fun c2005 => ?_) (fun c2005 => ?_)
  · refine V_iconst (v := (-1 : Int32)) dX12_told_21 rfl ?_
    exact key1 _ (by rw [if_pos c2005])
  · refine V_aload_n dX12_told_12 rfl ?_
    refine U_getR dX12_told_13 fl_X12_22 s_68 rfl ?_
    refine V_iload_n dX12_told_16 rfl ?_
    have hb2002 := hc2004 c2005
    refine U_iald dX12_told_17 s_73 hb2002 ?_
    refine V_goto dX12_told_18 ?_
    exact key1 _ (by rw [if_neg (not_not_intro c2005)])
theorem op_told {E : aE} {I : hI_} {J : hJ_} {P : hI_ → hJ_ → Prop} {a : Int32} (h : Rel I) (hP : ∀ I2 J2, Rel I2 → P I2 J2) : Op2 E mX11_told mX12_told [.int a] I J P := by
  obtain ⟨⟨p0, -⟩, p1, ⟨p2, -⟩, ⟨m0, m1, m2⟩, -, ⟨p6, -⟩, ⟨p7, -⟩, -⟩ := h.2.1
  refine op_ask h hP (if ¬ (0 ≤ a ∧ a ≤ 7) then (-1 : Int32) else I 73 a.toNatClampNeg) (fun Q hQ => ?_) (fun I1 J1 h1 hr1 Q hQ => ?_)
  · have q := hQ I J agX_rf
    refine wX11_told ⟨fun e => ?_, fun e => ?_, fun e => ?_, fun e => ?_, fun e => ?_, fun e => ?_, fun e => ?_, fun e => ?_, fun e => ?_⟩
    · subst e; rw [if_neg (by decide)] at q; rw [p0]; exact q
    · subst e; rw [if_neg (by decide)] at q; rw [p1]; exact q
    · subst e; rw [if_neg (by decide)] at q; rw [p2]; exact q
    · subst e; rw [if_neg (by decide)] at q; refine ⟨by unfold vp_in; decide, ?_⟩; show Q (I 9 0) I J; rw [m0]; exact q
    · subst e; rw [if_neg (by decide)] at q; refine ⟨by unfold vp_in; decide, ?_⟩; show Q (I 9 1) I J; rw [m1]; exact q
    · subst e; rw [if_neg (by decide)] at q; refine ⟨by unfold vp_in; decide, ?_⟩; show Q (I 9 2) I J; rw [m2]; exact q
    · subst e; rw [if_neg (by decide)] at q; rw [p6]; exact q
    · subst e; rw [if_neg (by decide)] at q; rw [p7]; exact q
    · rw [if_pos (fun z => ?_)] at q
      · exact q
      · obtain ⟨k, hk, rfl⟩ := in_le (n := 7) rfl z
        obtain ⟨e0, e1, e2, e3, e4, e5, e6, e7⟩ := e
        rcases (show k = 0 ∨ k = 1 ∨ k = 2 ∨ k = 3 ∨ k = 4 ∨ k = 5 ∨ k = 6 ∨ k = 7 by omega) with rfl | rfl | rfl | rfl | rfl | rfl | rfl | rfl
        · exact e0 rfl
        · exact e1 rfl
        · exact e2 rfl
        · exact e3 rfl
        · exact e4 rfl
        · exact e5 rfl
        · exact e6 rfl
        · exact e7 rfl
  · refine wX12_told ⟨fun z => ?_, ?_⟩
    · obtain ⟨k, hk, rfl⟩ := in_le (n := 7) rfl z
      exact vp_in_nI (by omega) (by omega)
    · rw [h1 73 rfl]
      exact hQ I1 J1 agM_rf
set_option maxHeartbeats 4000000 in
set_option maxRecDepth 20000 in
theorem wX11_way {E : aE} {P : Int32 → hI_ → hJ_ → Prop} {I : hI_} {J : hJ_} {a0 : Int32} {a1 : Int32} (k : ((¬ (0 ≤ a0 ∧ a0 ≤ I 3 6 - 1) → P (-1 : Int32) I J) ∧ ((0 ≤ a0 ∧ a0 ≤ I 3 6 - 1) → ((¬ (0 ≤ a1 ∧ a1 ≤ I 3 6 - 1) → P (-1 : Int32) I J) ∧ ((0 ≤ a1 ∧ a1 ≤ I 3 6 - 1) → ((¬ a0 = a1 → (vp_in (pr a0 a1) 25) ∧ P (if (I 5 (pr a0 a1).toNatClampNeg) ≤ (0 : Int32) then (-4 : Int32) else (I 5 (pr a0 a1).toNatClampNeg)) I J) ∧ (a0 = a1 → P (-1 : Int32) I J))))))) : CallI E mX11_way [.ref 0, .int a0, .int a1] SH I J P := by
  refine Call_of (L := [.ref 0, .int a0, .int a1, .retAddr 0]) ok_X11_way.1 rfl rfl ?_
  refine V_aload_n dX11_way_0 rfl ?_
  refine V_iload_n dX11_way_1 rfl ?_
  refine U_callV1 [.int a0] dX11_way_2 ov_X11_148 s_0 rfl ⟨rfl, rfl, rfl⟩ rfl rfl rfl (tX11_isPlace ?_)
  refine U_ifb_eq dX11_way_5 (fun c1 => ?_) (fun c1 => ?_)
  · have k := k.1 c1
    refine V_iconst (v := (-1 : Int32)) dX11_way_21 rfl ?_
    exact V_iret dX11_way_22 ⟨_, rfl, rfl⟩ rfl rfl ⟨_, _, _, rfl, rfl, k⟩
  · have k := k.2 c1
    refine V_aload_n dX11_way_8 rfl ?_
    refine V_iload_n dX11_way_9 rfl ?_
    refine U_callV1 [.int a1] dX11_way_10 ov_X11_148 s_0 rfl ⟨rfl, rfl, rfl⟩ rfl rfl rfl (tX11_isPlace ?_)
    refine U_ifb_eq dX11_way_13 (fun c2 => ?_) (fun c2 => ?_)
    · have k := k.1 c2
      refine V_iconst (v := (-1 : Int32)) dX11_way_21 rfl ?_
      exact V_iret dX11_way_22 ⟨_, rfl, rfl⟩ rfl rfl ⟨_, _, _, rfl, rfl, k⟩
    · have k := k.2 c2
      refine V_iload_n dX11_way_16 rfl ?_
      refine V_iload_n dX11_way_17 rfl ?_
      refine V_icmp_ne dX11_way_18 (fun c3 => ?_) (fun c3 => ?_)
      · have k := k.1 c3
        refine V_aload_n dX11_way_23 rfl ?_
        refine U_getR dX11_way_24 fl_X11_19 s_0 rfl ?_
        refine U_getR dX11_way_27 fl_X11_152 s_3 rfl ?_
        refine V_iload_n dX11_way_30 rfl ?_
        refine V_iload_n dX11_way_31 rfl ?_
        refine U_callS1 [.int a0, .int a1] dX11_way_32 os_X11_155 ⟨rfl, rfl, rfl⟩ rfl rfl rfl (tX3_pair ?_)
        obtain ⟨hb4, k⟩ := k
        refine U_iald dX11_way_35 s_5 hb4 ?_
        refine U_istore_n (L2 := [.ref 0, .int a0, .int a1, .int (I 5 (pr a0 a1).toNatClampNeg)]) dX11_way_36 (by decide) rfl ?_
        refine V_iload_n dX11_way_37 rfl ?_
        have key5 : ∀ (y2006 : Int32), y2006 = (if (I 5 (pr a0 a1).toNatClampNeg) ≤ (0 : Int32) then (-4 : Int32) else (I 5 (pr a0 a1).toNatClampNeg)) → V E mX11_way (kI SH P) 47 [.ref 0, .int a0, .int a1, .int (I 5 (pr a0 a1).toNatClampNeg)] [.int y2006] (SH, I, J) (0, 0) := by
          intro y2006 ey2006
          subst ey2006
          exact V_iret dX11_way_47 ⟨_, rfl, rfl⟩ rfl rfl ⟨_, _, _, rfl, rfl, k⟩
        refine V_if_le dX11_way_38 (fun c2007 => ?_) (fun c2007 => ?_)
        · refine V_bipush (v := (-4 : Int32)) dX11_way_45 rfl ?_
          exact key5 _ (by rw [if_pos c2007])
        · refine V_iload_n dX11_way_41 rfl ?_
          refine V_goto dX11_way_42 ?_
          exact key5 _ (by rw [if_neg c2007])
      · have k := k.2 c3
        refine V_iconst (v := (-1 : Int32)) dX11_way_21 rfl ?_
        exact V_iret dX11_way_22 ⟨_, rfl, rfl⟩ rfl rfl ⟨_, _, _, rfl, rfl, k⟩
set_option maxHeartbeats 4000000 in
set_option maxRecDepth 20000 in
theorem wX12_way {E : aE} {P : Int32 → hI_ → hJ_ → Prop} {I : hI_} {J : hJ_} {a0 : Int32} {a1 : Int32} (k : ((¬ (0 ≤ a0 ∧ a0 ≤ I 73 0 - 1) → P (-1 : Int32) I J) ∧ ((0 ≤ a0 ∧ a0 ≤ I 73 0 - 1) → ((¬ (0 ≤ a1 ∧ a1 ≤ I 73 0 - 1) → P (-1 : Int32) I J) ∧ ((0 ≤ a1 ∧ a1 ≤ I 73 0 - 1) → ((¬ a0 = a1 → (vp_in (((5 : Int32) * a0) + a1) 25) ∧ ((¬ (I 75 (((5 : Int32) * a0) + a1).toNatClampNeg) = (0 : Int32)) → vp_in (((5 : Int32) * a0) + a1) 25) ∧ P (if ¬ (I 75 (((5 : Int32) * a0) + a1).toNatClampNeg) = (0 : Int32) then (I 75 (((5 : Int32) * a0) + a1).toNatClampNeg) else (-4 : Int32)) I J) ∧ (a0 = a1 → P (-1 : Int32) I J))))))) : CallI E mX12_way [.ref 68, .int a0, .int a1] SH I J P := by
  refine Call_of (L := [.ref 68, .int a0, .int a1]) ok_X12_way.1 rfl rfl ?_
  refine V_aload_n dX12_way_0 rfl ?_
  refine V_iload_n dX12_way_1 rfl ?_
  refine U_callV1 [.int a0] dX12_way_2 ov_X12_167 s_68 rfl ⟨rfl, rfl, rfl⟩ rfl rfl rfl (tX12_isPlace ?_)
  refine U_ifb_eq dX12_way_5 (fun c1 => ?_) (fun c1 => ?_)
  · have k := k.1 c1
    refine V_iconst (v := (-1 : Int32)) dX12_way_21 rfl ?_
    exact V_iret dX12_way_22 ⟨_, rfl, rfl⟩ rfl rfl ⟨_, _, _, rfl, rfl, k⟩
  · have k := k.2 c1
    refine V_aload_n dX12_way_8 rfl ?_
    refine V_iload_n dX12_way_9 rfl ?_
    refine U_callV1 [.int a1] dX12_way_10 ov_X12_167 s_68 rfl ⟨rfl, rfl, rfl⟩ rfl rfl rfl (tX12_isPlace ?_)
    refine U_ifb_eq dX12_way_13 (fun c2 => ?_) (fun c2 => ?_)
    · have k := k.1 c2
      refine V_iconst (v := (-1 : Int32)) dX12_way_21 rfl ?_
      exact V_iret dX12_way_22 ⟨_, rfl, rfl⟩ rfl rfl ⟨_, _, _, rfl, rfl, k⟩
    · have k := k.2 c2
      refine V_iload_n dX12_way_16 rfl ?_
      refine V_iload_n dX12_way_17 rfl ?_
      refine V_icmp_ne dX12_way_18 (fun c3 => ?_) (fun c3 => ?_)
      · have k := k.1 c3
        refine V_aload_n dX12_way_23 rfl ?_
        refine U_getR dX12_way_24 fl_X12_28 s_68 rfl ?_
        refine V_iconst (v := (5 : Int32)) dX12_way_27 rfl ?_
        refine V_iload_n dX12_way_28 rfl ?_
        refine V_imul dX12_way_29 ?_
        refine V_iload_n dX12_way_30 rfl ?_
        refine V_iadd dX12_way_31 ?_
        obtain ⟨hb4, k⟩ := k
        refine U_iald dX12_way_32 s_75 hb4 ?_
        obtain ⟨hc2008, k⟩ := k
        have key5 : ∀ (y2007 : Int32), y2007 = (if ¬ (I 75 (((5 : Int32) * a0) + a1).toNatClampNeg) = (0 : Int32) then (I 75 (((5 : Int32) * a0) + a1).toNatClampNeg) else (-4 : Int32)) → V E mX12_way (kI SH P) 51 [.ref 68, .int a0, .int a1] [.int y2007] (SH, I, J) (0, 0) := by
          intro y2007 ey2007
          subst ey2007
          exact V_iret dX12_way_51 ⟨_, rfl, rfl⟩ rfl rfl ⟨_, _, _, rfl, rfl, k⟩
        refine V_if_ne dX12_way_33 (fun c2009 => ?_) (fun c2009 => ?_)
        · refine V_aload_n dX12_way_41 rfl ?_
          refine U_getR dX12_way_42 fl_X12_28 s_68 rfl ?_
          refine V_iconst (v := (5 : Int32)) dX12_way_45 rfl ?_
          refine V_iload_n dX12_way_46 rfl ?_
          refine V_imul dX12_way_47 ?_
          refine V_iload_n dX12_way_48 rfl ?_
          refine V_iadd dX12_way_49 ?_
          have hb1006 := hc2008 c2009
          refine U_iald dX12_way_50 s_75 hb1006 ?_
          exact key5 _ (by rw [if_pos c2009])
        · refine V_bipush (v := (-4 : Int32)) dX12_way_36 rfl ?_
          refine V_goto dX12_way_38 ?_
          exact key5 _ (by rw [if_neg (not_not_intro c2009)])
      · have k := k.2 c3
        refine V_iconst (v := (-1 : Int32)) dX12_way_21 rfl ?_
        exact V_iret dX12_way_22 ⟨_, rfl, rfl⟩ rfl rfl ⟨_, _, _, rfl, rfl, k⟩
theorem pr_nI {a b : Nat} (ha : a < 5) (hb : b < 5) : pr (nI a) (nI b) = nI (prN a b) := by
  unfold pr prN
  by_cases h : b ≤ a
  · rw [if_pos (nI_le h (by omega)), if_pos h, show (5 : Int32) = nI 5 from rfl, pk_mul, nI_add]
  · rw [if_neg (nI_ge (by omega) (by omega)), if_neg h, show (5 : Int32) = nI 5 from rfl, pk_mul, nI_add]
theorem prN_lt {a b : Nat} (ha : a < 5) (hb : b < 5) : prN a b < 25 := by
  unfold prN
  split <;> omega
theorem m5_nI (a b : Nat) : (5 : Int32) * nI a + nI b = nI (5 * a + b) := by rw [show (5 : Int32) = nI 5 from rfl, pk_mul, nI_add]
theorem op_way {E : aE} {I : hI_} {J : hJ_} {P : hI_ → hJ_ → Prop} {a b : Int32} (h : Rel I) (hP : ∀ I2 J2, Rel I2 → P I2 J2) : Op2 E mX11_way mX12_way [.int a, .int b] I J P := by
  have hp := Rel_P h
  refine wX11_way ⟨fun c1 => ?_, fun c1 => ⟨fun c2 => ?_, fun c2 => ⟨fun c3 => ?_, fun c3 => ?_⟩⟩⟩
  · rw [hp.1] at c1
    refine wX12_way ⟨fun _ => ⟨rfl, hP I J h⟩, fun d1 => ?_⟩
    rw [hp.2.1] at d1; exact absurd d1 c1
  · rw [hp.1] at c1 c2
    refine wX12_way ⟨fun d1 => ?_, fun d1 => ⟨fun d2 => ⟨rfl, hP I J h⟩, fun d2 => ?_⟩⟩
    · rw [hp.2.1] at d1; exact absurd c1 d1
    · rw [hp.2.1] at d2; exact absurd d2 c2
  · rw [hp.1] at c1 c2
    obtain ⟨x, hx, rfl⟩ := in_lt (by omega) c1
    obtain ⟨y, hy, rfl⟩ := in_lt (by omega) c2
    rw [pr_nI (by omega) (by omega), nI_clamp (by have := prN_lt (a := x) (b := y) (by omega) (by omega); omega)]
    refine ⟨vp_in_nI (prN_lt (by omega) (by omega)) (by omega), ?_⟩
    obtain ⟨w1, w2, w3⟩ := h.2.1.2.2.2.2.2.2.2.2.1 x y (by omega) (by omega)
    rw [w1]
    have hc3 : x ≠ y := fun e => c3 (by rw [e])
    refine wX12_way ⟨fun d1 => ?_, fun d1 => ⟨fun d2 => ?_, fun d2 => ⟨fun d3 => ?_, fun d3 => absurd d3 c3⟩⟩⟩
    · rw [hp.2.1] at d1; exact absurd c1 d1
    · rw [hp.2.1] at d2; exact absurd c2 d2
    · rw [m5_nI, nI_clamp (by omega)]
      refine ⟨vp_in_nI (by omega) (by omega), fun _ => vp_in_nI (by omega) (by omega), ?_, hP I J h⟩
      by_cases hz : I 75 (5 * x + y) = 0
      · rw [hz]; rfl
      · have : ¬ I 75 (5 * x + y) ≤ 0 := fun q => hz (by
          apply Int32.toInt_inj.mp
          have q := Int32.le_iff_toInt_le.mp q
          have := w2.1
          have z : (0 : Int32).toInt = 0 := rfl
          omega)
        rw [if_neg this, if_pos hz]
  · rw [hp.1] at c1 c2
    refine wX12_way ⟨fun d1 => ?_, fun d1 => ⟨fun d2 => ?_, fun d2 => ⟨fun d3 => absurd c3 d3, fun d3 => ⟨rfl, hP I J h⟩⟩⟩⟩
    · rw [hp.2.1] at d1; exact absurd c1 d1
    · rw [hp.2.1] at d2; exact absurd c2 d2
set_option maxHeartbeats 4000000 in
set_option maxRecDepth 20000 in
theorem wX11_end {E : aE} {P : Int32 → hI_ → hJ_ → Prop} {I : hI_} {J : hJ_} {a0 : Int32} (k : ((((0 : Int32) ≤ a0 ∧ a0 ≤ (I 1 1)) → P (I 1 1) (upI I 1 1 a0) J) ∧ (¬ (((0 : Int32) ≤ a0 ∧ a0 ≤ (I 1 1))) → P (-1 : Int32) I J))) : CallI E mX11_end [.ref 0, .int a0] SH I J P := by
  refine Call_of (L := [.ref 0, .int a0, .retAddr 0]) ok_X11_end.1 rfl rfl ?_
  refine V_aload_n dX11_end_0 rfl ?_
  refine U_getR dX11_end_1 fl_X11_10 s_0 rfl ?_
  refine U_getI dX11_end_4 fl_X11_100 s_1 rfl ?_
  refine U_istore_n (L2 := [.ref 0, .int a0, .int (I 1 1)]) dX11_end_7 (by decide) rfl ?_
  refine V_iload_n dX11_end_8 rfl ?_
  refine V_iconst (v := (0 : Int32)) dX11_end_9 rfl ?_
  refine V_iload_n dX11_end_10 rfl ?_
  refine U_callS1 [.int a0, .int (0 : Int32), .int (I 1 1)] dX11_end_11 os_X11_104 ⟨rfl, rfl, rfl⟩ rfl rfl rfl (tX11_within ?_)
  refine U_ifb_ne dX11_end_14 (fun c1 => ?_) (fun c1 => ?_)
  · have k := k.1 c1
    refine V_aload_n dX11_end_19 rfl ?_
    refine U_getR dX11_end_20 fl_X11_10 s_0 rfl ?_
    refine V_iload_n dX11_end_23 rfl ?_
    refine U_putI dX11_end_24 fp_X11_100 s_1 rfl ?_
    refine V_iload_n dX11_end_27 rfl ?_
    exact V_iret dX11_end_28 ⟨_, rfl, rfl⟩ rfl rfl ⟨_, _, _, rfl, rfl, k⟩
  · have k := k.2 c1
    refine V_iconst (v := (-1 : Int32)) dX11_end_17 rfl ?_
    exact V_iret dX11_end_18 ⟨_, rfl, rfl⟩ rfl rfl ⟨_, _, _, rfl, rfl, k⟩
set_option maxHeartbeats 4000000 in
set_option maxRecDepth 20000 in
theorem wX12_end {E : aE} {P : Int32 → hI_ → hJ_ → Prop} {I : hI_} {J : hJ_} {a0 : Int32} (k : ((((0 : Int32) ≤ a0 ∧ a0 ≤ (I 68 1)) → P (I 68 1) (upI I 68 1 a0) J) ∧ (¬ (((0 : Int32) ≤ a0 ∧ a0 ≤ (I 68 1))) → P (-1 : Int32) I J))) : CallI E mX12_end [.ref 68, .int a0] SH I J P := by
  refine Call_of (L := [.ref 68, .int a0, .retAddr 0]) ok_X12_end.1 rfl rfl ?_
  refine V_iload_n dX12_end_0 rfl ?_
  refine V_i2l dX12_end_1 ?_
  refine V_lconst (v := (0 : Int64)) dX12_end_2 rfl ?_
  refine V_aload_n dX12_end_3 rfl ?_
  refine U_getI dX12_end_4 fl_X12_87 s_68 rfl ?_
  refine V_i2l dX12_end_7 ?_
  refine U_callS1 [.long a0.toInt64, .long (0 : Int64), .long ((I 68 1).toInt64)] dX12_end_8 os_X12_91 ⟨rfl, rfl, rfl⟩ rfl rfl rfl (tX12_in32 (v := a0) (lo := (0 : Int32)) (hi := (I 68 1)) rfl (by decide) rfl ?_)
  refine U_ifb_ne dX12_end_11 (fun c1 => ?_) (fun c1 => ?_)
  · have k := k.1 c1
    refine V_aload_n dX12_end_16 rfl ?_
    refine U_getI dX12_end_17 fl_X12_87 s_68 rfl ?_
    refine U_istore_n (L2 := [.ref 68, .int a0, .int (I 68 1)]) dX12_end_20 (by decide) rfl ?_
    refine V_aload_n dX12_end_21 rfl ?_
    refine V_iload_n dX12_end_22 rfl ?_
    refine U_putI dX12_end_23 fp_X12_87 s_68 rfl ?_
    refine V_iload_n dX12_end_26 rfl ?_
    exact V_iret dX12_end_27 ⟨_, rfl, rfl⟩ rfl rfl ⟨_, _, _, rfl, rfl, k⟩
  · have k := k.2 c1
    refine V_iconst (v := (-1 : Int32)) dX12_end_14 rfl ?_
    exact V_iret dX12_end_15 ⟨_, rfl, rfl⟩ rfl rfl ⟨_, _, _, rfl, rfl, k⟩
theorem Rel_tape {I I2 : hI_} (h : Rel I) (ht : RTape (I2 1 1) (I2 68 1) (I2 2) (I2 69)) (ho : ∀ a, a ≠ 1 → a ≠ 2 → a ≠ 68 → a ≠ 69 → I2 a = I a) (h2 : I2 68 2 = I 68 2) (h37 : I2 68 37 = I 68 37) : Rel I2 := by
  refine ⟨ht, ?_⟩
  have h := h.2
  unfold RPlanI RRows RLedI RImgI RSheetI wI at h ⊢
  have e : ∀ a, a < 68 → 2 < a → I2 a = I a := fun a q1 q2 => ho a (by omega) (by omega) (by omega) (by omega)
  have f : ∀ a, 69 < a → I2 a = I a := fun a q => ho a (by omega) (by omega) (by omega) (by omega)
  rw [ho 0 (by omega) (by omega) (by omega) (by omega), e 3 (by omega) (by omega), e 4 (by omega) (by omega), e 5 (by omega) (by omega), e 6 (by omega) (by omega), e 7 (by omega) (by omega), e 8 (by omega) (by omega), e 9 (by omega) (by omega), e 22 (by omega) (by omega), e 23 (by omega) (by omega), e 24 (by omega) (by omega), e 25 (by omega) (by omega), e 26 (by omega) (by omega), e 27 (by omega) (by omega), e 46 (by omega) (by omega), e 47 (by omega) (by omega), e 48 (by omega) (by omega), e 49 (by omega) (by omega), e 50 (by omega) (by omega), e 51 (by omega) (by omega), e 52 (by omega) (by omega), e 53 (by omega) (by omega), e 54 (by omega) (by omega), e 55 (by omega) (by omega), e 56 (by omega) (by omega), e 57 (by omega) (by omega), e 58 (by omega) (by omega), e 59 (by omega) (by omega), e 60 (by omega) (by omega), e 61 (by omega) (by omega), e 62 (by omega) (by omega), e 63 (by omega) (by omega), e 64 (by omega) (by omega), e 65 (by omega) (by omega), e 66 (by omega) (by omega), e 67 (by omega) (by omega), f 70 (by omega), f 71 (by omega), f 72 (by omega), f 73 (by omega), f 74 (by omega), f 75 (by omega), f 76 (by omega), f 82 (by omega), f 90 (by omega), f 91 (by omega), f 92 (by omega), f 93 (by omega), h2, h37]
  exact h
theorem op_end {E : aE} {I : hI_} {J : hJ_} {P : hI_ → hJ_ → Prop} {a : Int32} (h : Rel I) (hP : ∀ I2 J2, Rel I2 → P I2 J2) : Op2 E mX11_end mX12_end [.int a] I J P := by
  obtain ⟨t1, t2, t3, t4⟩ := h.1
  refine wX11_end ⟨fun c1 => ?_, fun c1 => ?_⟩
  · refine wX12_end ⟨fun d1 => ⟨t1, hP _ _ ?_⟩, fun d1 => absurd (show (0 ≤ a ∧ a ≤ I 68 1) by rw [← t1]; exact c1) d1⟩
    refine Rel_tape h ?_ (fun b q1 q2 q3 q4 => ?_) rfl rfl
    · have g1 := Int32.le_iff_toInt_le.mp c1.1
      have g2 := Int32.le_iff_toInt_le.mp c1.2
      have z : (0 : Int32).toInt = 0 := rfl
      refine ⟨rfl, ?_, ?_, fun k hk => ?_⟩
      · show 0 ≤ a.toInt; omega
      · show a.toInt ≤ 320; omega
      · have hk : (k : Int) < a.toInt := hk
        exact t4 k (by omega)
    · simp [upI, q1, q3]
  · exact wX12_end ⟨fun d1 => absurd (show (0 ≤ a ∧ a ≤ I 1 1) by rw [t1]; exact d1) c1, fun _ => ⟨rfl, hP I J h⟩⟩
set_option maxHeartbeats 4000000 in
set_option maxRecDepth 20000 in
theorem wX11_count {E : aE} {P : Int32 → hI_ → hJ_ → Prop} {I : hI_} {J : hJ_} {a0 : Int32} (k : ((a0 = (0 : Int32) → P (I 22 3) I J) ∧ (a0 = (1 : Int32) → P (I 24 3) I J) ∧ (a0 = (2 : Int32) → P (I 26 3) I J) ∧ (a0 = (3 : Int32) → P ((b2i (¬ ((I 46 4) = (0 : Int32)))) + (b2i (¬ ((I 53 4) = (0 : Int32))))) I J) ∧ (a0 = (4 : Int32) → P (I 1 1) I J) ∧ (a0 = (5 : Int32) → ((¬ (I 60 1 = -1) → P (I 60 2) I J) ∧ ((I 60 1 = -1) → P (-4 : Int32) I J))) ∧ ((¬ a0 = (0 : Int32) ∧ ¬ a0 = (1 : Int32) ∧ ¬ a0 = (2 : Int32) ∧ ¬ a0 = (3 : Int32) ∧ ¬ a0 = (4 : Int32) ∧ ¬ a0 = (5 : Int32)) → P (-1 : Int32) I J))) : CallI E mX11_count [.ref 0, .int a0] SH I J P := by
  refine Call_of (L := [.ref 0, .int a0]) ok_X11_count.1 rfl rfl ?_
  refine V_iload_n dX11_count_0 rfl ?_
  by_cases c1 : a0 = (0 : Int32)
  · refine V_tabIn (off := 39) (tgt := 40) dX11_count_1 (by rw [c1]; decide) (by rw [c1]; decide) (by rw [c1]; rfl) rfl ?_
    have k := k.1 c1
    refine V_aload_n dX11_count_40 rfl ?_
    refine U_getR dX11_count_41 fl_X11_47 s_0 rfl ?_
    refine U_getR dX11_count_44 fl_X11_176 s_21 rfl ?_
    refine U_getI dX11_count_47 fl_X11_189 s_22 rfl ?_
    exact V_iret dX11_count_50 ⟨_, rfl, rfl⟩ rfl rfl ⟨_, _, _, rfl, rfl, k⟩
  by_cases c2 : a0 = (1 : Int32)
  · refine V_tabIn (off := 50) (tgt := 51) dX11_count_1 (by rw [c2]; decide) (by rw [c2]; decide) (by rw [c2]; rfl) rfl ?_
    have k := k.2.1 c2
    refine V_aload_n dX11_count_51 rfl ?_
    refine U_getR dX11_count_52 fl_X11_47 s_0 rfl ?_
    refine U_getR dX11_count_55 fl_X11_203 s_21 rfl ?_
    refine U_getI dX11_count_58 fl_X11_189 s_24 rfl ?_
    exact V_iret dX11_count_61 ⟨_, rfl, rfl⟩ rfl rfl ⟨_, _, _, rfl, rfl, k⟩
  by_cases c3 : a0 = (2 : Int32)
  · refine V_tabIn (off := 61) (tgt := 62) dX11_count_1 (by rw [c3]; decide) (by rw [c3]; decide) (by rw [c3]; rfl) rfl ?_
    have k := k.2.2.1 c3
    refine V_aload_n dX11_count_62 rfl ?_
    refine U_getR dX11_count_63 fl_X11_47 s_0 rfl ?_
    refine U_getR dX11_count_66 fl_X11_228 s_21 rfl ?_
    refine U_getI dX11_count_69 fl_X11_189 s_26 rfl ?_
    exact V_iret dX11_count_72 ⟨_, rfl, rfl⟩ rfl rfl ⟨_, _, _, rfl, rfl, k⟩
  by_cases c4010 : a0 = (3 : Int32)
  · refine V_tabIn (off := 72) (tgt := 73) dX11_count_1 (by rw [c4010]; decide) (by rw [c4010]; decide) (by rw [c4010]; rfl) rfl ?_
    have k := k.2.2.2.1 c4010
    refine V_aload_n dX11_count_73 rfl ?_
    refine U_getR dX11_count_74 fl_X11_51 s_0 rfl ?_
    refine V_iconst (v := (0 : Int32)) dX11_count_77 rfl ?_
    refine U_aald0 (b := 46) dX11_count_78 s_28 (by unfold vp_in; decide) rfl ?_
    refine U_getI dX11_count_79 fl_X11_125 s_46 rfl ?_
    have key4 : ∀ (y2005 : Int32), y2005 = (b2i (¬ ((I 46 4) = (0 : Int32)))) → V E mX11_count (kI SH P) 90 [.ref 0, .int a0] [.int y2005] (SH, I, J) (0, 0) := by
      intro y2005 ey2005
      subst ey2005
      refine V_aload_n dX11_count_90 rfl ?_
      refine U_getR dX11_count_91 fl_X11_51 s_0 rfl ?_
      refine V_iconst (v := (1 : Int32)) dX11_count_94 rfl ?_
      refine U_aald0 (b := 53) dX11_count_95 s_28 (by unfold vp_in; decide) rfl ?_
      refine U_getI dX11_count_96 fl_X11_125 s_53 rfl ?_
      have key2006 : ∀ (y4007 : Int32), y4007 = (b2i (¬ ((I 53 4) = (0 : Int32)))) → V E mX11_count (kI SH P) 107 [.ref 0, .int a0] [.int y4007, .int (b2i (¬ ((I 46 4) = (0 : Int32))))] (SH, I, J) (0, 0) := by
        intro y4007 ey4007
        subst ey4007
        refine V_iadd dX11_count_107 ?_
        exact V_iret dX11_count_108 ⟨_, rfl, rfl⟩ rfl rfl ⟨_, _, _, rfl, rfl, k⟩
      refine V_if_eq dX11_count_99 (fun c4008 => ?_) (fun c4008 => ?_)
      · refine V_iconst (v := (0 : Int32)) dX11_count_106 rfl ?_
        exact key2006 _ ((b2i_0.mpr (fun q => q c4008)).symm)
      · refine V_iconst (v := (1 : Int32)) dX11_count_102 rfl ?_
        refine V_goto dX11_count_103 ?_
        exact key2006 _ ((b2i_1.mpr (c4008)).symm)
    refine V_if_eq dX11_count_82 (fun c4009 => ?_) (fun c4009 => ?_)
    · refine V_iconst (v := (0 : Int32)) dX11_count_89 rfl ?_
      exact key4 _ ((b2i_0.mpr (fun q => q c4009)).symm)
    · refine V_iconst (v := (1 : Int32)) dX11_count_85 rfl ?_
      refine V_goto dX11_count_86 ?_
      exact key4 _ ((b2i_1.mpr (c4009)).symm)
  by_cases c4011 : a0 = (4 : Int32)
  · refine V_tabIn (off := 108) (tgt := 109) dX11_count_1 (by rw [c4011]; decide) (by rw [c4011]; decide) (by rw [c4011]; rfl) rfl ?_
    have k := k.2.2.2.2.1 c4011
    refine V_aload_n dX11_count_109 rfl ?_
    refine U_getR dX11_count_110 fl_X11_10 s_0 rfl ?_
    refine U_getI dX11_count_113 fl_X11_100 s_1 rfl ?_
    exact V_iret dX11_count_116 ⟨_, rfl, rfl⟩ rfl rfl ⟨_, _, _, rfl, rfl, k⟩
  by_cases c4013 : a0 = (5 : Int32)
  · refine V_tabIn (off := 116) (tgt := 117) dX11_count_1 (by rw [c4013]; decide) (by rw [c4013]; decide) (by rw [c4013]; rfl) rfl ?_
    have k := k.2.2.2.2.2.1 c4013
    refine V_aload_n dX11_count_117 rfl ?_
    refine U_getR dX11_count_118 fl_X11_91 s_0 rfl ?_
    refine V_iconst (v := (0 : Int32)) dX11_count_121 rfl ?_
    refine U_aald1 (b := 60) dX11_count_122 s_45 (by unfold vp_in; decide) rfl ?_
    refine U_callV1 [] dX11_count_123 ov_X11_323 s_60 rfl ⟨rfl, rfl, rfl⟩ rfl rfl rfl (tX6_isNothing s_60 s_61 ?_)
    refine U_ifb_eq dX11_count_126 (fun c4012 => ?_) (fun c4012 => ?_)
    · have k := k.1 c4012
      refine V_aload_n dX11_count_134 rfl ?_
      refine U_getR dX11_count_135 fl_X11_91 s_0 rfl ?_
      refine V_iconst (v := (0 : Int32)) dX11_count_138 rfl ?_
      refine U_aald1 (b := 60) dX11_count_139 s_45 (by unfold vp_in; decide) rfl ?_
      refine U_getI dX11_count_140 fl_X11_343 s_60 rfl ?_
      exact V_iret dX11_count_143 ⟨_, rfl, rfl⟩ rfl rfl ⟨_, _, _, rfl, rfl, k⟩
    · have k := k.2 c4012
      refine V_bipush (v := (-4 : Int32)) dX11_count_129 rfl ?_
      refine V_goto dX11_count_131 ?_
      exact V_iret dX11_count_143 ⟨_, rfl, rfl⟩ rfl rfl ⟨_, _, _, rfl, rfl, k⟩
  · have hto := tab_out (x := a0) (lo := 0) (n := 6) (by
      intro k hk
      have hk := List.mem_range.mp hk
      rcases (show k = 0 ∨ k = 1 ∨ k = 2 ∨ k = 3 ∨ k = 4 ∨ k = 5 by omega) with rfl | rfl | rfl | rfl | rfl | rfl
      · exact c1
      · exact c2
      · exact c3
      · exact c4010
      · exact c4011
      · exact c4013
      ) (by decide)
    refine V_tabOut (tgt := 144) dX11_count_1 rfl (by omega) ?_
    have k := k.2.2.2.2.2.2 ⟨c1, c2, c3, c4010, c4011, c4013⟩
    refine V_iconst (v := (-1 : Int32)) dX11_count_144 rfl ?_
    exact V_iret dX11_count_145 ⟨_, rfl, rfl⟩ rfl rfl ⟨_, _, _, rfl, rfl, k⟩
set_option maxHeartbeats 4000000 in
set_option maxRecDepth 20000 in
theorem wX12_count {E : aE} {P : Int32 → hI_ → hJ_ → Prop} {I : hI_} {J : hJ_} {a0 : Int32} (k : ((a0 = (0 : Int32) → (vp_in ((280 : Int32) + a0) 900) ∧ P (I 82 ((280 : Int32) + a0).toNatClampNeg) I J) ∧ (a0 = (1 : Int32) → (vp_in ((280 : Int32) + a0) 900) ∧ P (I 82 ((280 : Int32) + a0).toNatClampNeg) I J) ∧ (a0 = (2 : Int32) → (vp_in ((280 : Int32) + a0) 900) ∧ P (I 82 ((280 : Int32) + a0).toNatClampNeg) I J) ∧ (a0 = (3 : Int32) → P ((b2i (¬ ((I 90 0) = (0 : Int32)))) + (b2i (¬ ((I 90 1) = (0 : Int32))))) I J) ∧ (a0 = (4 : Int32) → P (I 68 1) I J) ∧ (a0 = (5 : Int32) → P (if ¬ (I 91 0) = (-4 : Int32) then (I 92 0) else (-4 : Int32)) I J) ∧ ((¬ a0 = (0 : Int32) ∧ ¬ a0 = (1 : Int32) ∧ ¬ a0 = (2 : Int32) ∧ ¬ a0 = (3 : Int32) ∧ ¬ a0 = (4 : Int32) ∧ ¬ a0 = (5 : Int32)) → P (-1 : Int32) I J))) : CallI E mX12_count [.ref 68, .int a0] SH I J P := by
  refine Call_of (L := [.ref 68, .int a0]) ok_X12_count.1 rfl rfl ?_
  refine V_iload_n dX12_count_0 rfl ?_
  by_cases c2 : a0 = (0 : Int32)
  · refine V_tabIn (off := 39) (tgt := 40) dX12_count_1 (by rw [c2]; decide) (by rw [c2]; decide) (by rw [c2]; rfl) rfl ?_
    have k := k.1 c2
    refine V_aload_n dX12_count_40 rfl ?_
    refine U_getR dX12_count_41 fl_X12_49 s_68 rfl ?_
    refine V_sipush (v := (280 : Int32)) dX12_count_44 rfl ?_
    refine V_iload_n dX12_count_47 rfl ?_
    refine V_iadd dX12_count_48 ?_
    obtain ⟨hb1, k⟩ := k
    refine U_iald dX12_count_49 s_82 hb1 ?_
    exact V_iret dX12_count_50 ⟨_, rfl, rfl⟩ rfl rfl ⟨_, _, _, rfl, rfl, k⟩
  by_cases c4 : a0 = (1 : Int32)
  · refine V_tabIn (off := 39) (tgt := 40) dX12_count_1 (by rw [c4]; decide) (by rw [c4]; decide) (by rw [c4]; rfl) rfl ?_
    have k := k.2.1 c4
    refine V_aload_n dX12_count_40 rfl ?_
    refine U_getR dX12_count_41 fl_X12_49 s_68 rfl ?_
    refine V_sipush (v := (280 : Int32)) dX12_count_44 rfl ?_
    refine V_iload_n dX12_count_47 rfl ?_
    refine V_iadd dX12_count_48 ?_
    obtain ⟨hb3, k⟩ := k
    refine U_iald dX12_count_49 s_82 hb3 ?_
    exact V_iret dX12_count_50 ⟨_, rfl, rfl⟩ rfl rfl ⟨_, _, _, rfl, rfl, k⟩
  by_cases c6 : a0 = (2 : Int32)
  · refine V_tabIn (off := 39) (tgt := 40) dX12_count_1 (by rw [c6]; decide) (by rw [c6]; decide) (by rw [c6]; rfl) rfl ?_
    have k := k.2.2.1 c6
    refine V_aload_n dX12_count_40 rfl ?_
    refine U_getR dX12_count_41 fl_X12_49 s_68 rfl ?_
    refine V_sipush (v := (280 : Int32)) dX12_count_44 rfl ?_
    refine V_iload_n dX12_count_47 rfl ?_
    refine V_iadd dX12_count_48 ?_
    obtain ⟨hb5, k⟩ := k
    refine U_iald dX12_count_49 s_82 hb5 ?_
    exact V_iret dX12_count_50 ⟨_, rfl, rfl⟩ rfl rfl ⟨_, _, _, rfl, rfl, k⟩
  by_cases c4013 : a0 = (3 : Int32)
  · refine V_tabIn (off := 50) (tgt := 51) dX12_count_1 (by rw [c4013]; decide) (by rw [c4013]; decide) (by rw [c4013]; rfl) rfl ?_
    have k := k.2.2.2.1 c4013
    refine V_aload_n dX12_count_51 rfl ?_
    refine U_getR dX12_count_52 fl_X12_75 s_68 rfl ?_
    refine V_iconst (v := (0 : Int32)) dX12_count_55 rfl ?_
    refine U_zaldx (x := I 90 0) dX12_count_56 s_90 (by unfold vp_in; decide) rfl ?_
    have key7 : ∀ (y2008 : Int32), y2008 = (b2i (¬ ((I 90 0) = (0 : Int32)))) → V E mX12_count (kI SH P) 65 [.ref 68, .int a0] [.int y2008] (SH, I, J) (0, 0) := by
      intro y2008 ey2008
      subst ey2008
      refine V_aload_n dX12_count_65 rfl ?_
      refine U_getR dX12_count_66 fl_X12_75 s_68 rfl ?_
      refine V_iconst (v := (1 : Int32)) dX12_count_69 rfl ?_
      refine U_zaldx (x := I 90 1) dX12_count_70 s_90 (by unfold vp_in; decide) rfl ?_
      have key2009 : ∀ (y4010 : Int32), y4010 = (b2i (¬ ((I 90 1) = (0 : Int32)))) → V E mX12_count (kI SH P) 79 [.ref 68, .int a0] [.int y4010, .int (b2i (¬ ((I 90 0) = (0 : Int32))))] (SH, I, J) (0, 0) := by
        intro y4010 ey4010
        subst ey4010
        refine V_iadd dX12_count_79 ?_
        exact V_iret dX12_count_80 ⟨_, rfl, rfl⟩ rfl rfl ⟨_, _, _, rfl, rfl, k⟩
      refine V_if_eq dX12_count_71 (fun c4011 => ?_) (fun c4011 => ?_)
      · refine V_iconst (v := (0 : Int32)) dX12_count_78 rfl ?_
        exact key2009 _ ((b2i_0.mpr (fun q => q c4011)).symm)
      · refine V_iconst (v := (1 : Int32)) dX12_count_74 rfl ?_
        refine V_goto dX12_count_75 ?_
        exact key2009 _ ((b2i_1.mpr (c4011)).symm)
    refine V_if_eq dX12_count_57 (fun c4012 => ?_) (fun c4012 => ?_)
    · refine V_iconst (v := (0 : Int32)) dX12_count_64 rfl ?_
      exact key7 _ ((b2i_0.mpr (fun q => q c4012)).symm)
    · refine V_iconst (v := (1 : Int32)) dX12_count_60 rfl ?_
      refine V_goto dX12_count_61 ?_
      exact key7 _ ((b2i_1.mpr (c4012)).symm)
  by_cases c4014 : a0 = (4 : Int32)
  · refine V_tabIn (off := 80) (tgt := 81) dX12_count_1 (by rw [c4014]; decide) (by rw [c4014]; decide) (by rw [c4014]; rfl) rfl ?_
    have k := k.2.2.2.2.1 c4014
    refine V_aload_n dX12_count_81 rfl ?_
    refine U_getI dX12_count_82 fl_X12_87 s_68 rfl ?_
    exact V_iret dX12_count_85 ⟨_, rfl, rfl⟩ rfl rfl ⟨_, _, _, rfl, rfl, k⟩
  by_cases c6018 : a0 = (5 : Int32)
  · refine V_tabIn (off := 85) (tgt := 86) dX12_count_1 (by rw [c6018]; decide) (by rw [c6018]; decide) (by rw [c6018]; rfl) rfl ?_
    have k := k.2.2.2.2.2.1 c6018
    refine V_aload_n dX12_count_86 rfl ?_
    refine U_getR dX12_count_87 fl_X12_78 s_68 rfl ?_
    refine V_iconst (v := (0 : Int32)) dX12_count_90 rfl ?_
    refine U_ialdx (x := I 91 0) dX12_count_91 s_91 (by unfold vp_in; decide) rfl ?_
    refine V_bipush (v := (-4 : Int32)) dX12_count_92 rfl ?_
    have key4015 : ∀ (y6016 : Int32), y6016 = (if ¬ (I 91 0) = (-4 : Int32) then (I 92 0) else (-4 : Int32)) → V E mX12_count (kI SH P) 108 [.ref 68, .int a0] [.int y6016] (SH, I, J) (0, 0) := by
      intro y6016 ey6016
      subst ey6016
      exact V_iret dX12_count_108 ⟨_, rfl, rfl⟩ rfl rfl ⟨_, _, _, rfl, rfl, k⟩
    refine V_icmp_ne dX12_count_94 (fun c6017 => ?_) (fun c6017 => ?_)
    · refine V_aload_n dX12_count_102 rfl ?_
      refine U_getR dX12_count_103 fl_X12_81 s_68 rfl ?_
      refine V_iconst (v := (0 : Int32)) dX12_count_106 rfl ?_
      refine U_ialdx (x := I 92 0) dX12_count_107 s_92 (by unfold vp_in; decide) rfl ?_
      exact key4015 _ (by rw [if_pos c6017])
    · refine V_bipush (v := (-4 : Int32)) dX12_count_97 rfl ?_
      refine V_goto dX12_count_99 ?_
      exact key4015 _ (by rw [if_neg (not_not_intro c6017)])
  · have hto := tab_out (x := a0) (lo := 0) (n := 6) (by
      intro k hk
      have hk := List.mem_range.mp hk
      rcases (show k = 0 ∨ k = 1 ∨ k = 2 ∨ k = 3 ∨ k = 4 ∨ k = 5 by omega) with rfl | rfl | rfl | rfl | rfl | rfl
      · exact c2
      · exact c4
      · exact c6
      · exact c4013
      · exact c4014
      · exact c6018
      ) (by decide)
    refine V_tabOut (tgt := 109) dX12_count_1 rfl (by omega) ?_
    have k := k.2.2.2.2.2.2 ⟨c2, c4, c6, c4013, c4014, c6018⟩
    refine V_iconst (v := (-1 : Int32)) dX12_count_109 rfl ?_
    exact V_iret dX12_count_110 ⟨_, rfl, rfl⟩ rfl rfl ⟨_, _, _, rfl, rfl, k⟩
theorem op_count {E : aE} {I : hI_} {J : hJ_} {P : hI_ → hJ_ → Prop} {a : Int32} (h : Rel I) (hP : ∀ I2 J2, Rel I2 → P I2 J2) : Op2 E mX11_count mX12_count [.int a] I J P := by
  have hS := Rel_S h
  have hC := Rel_C h
  have hD := Rel_D h
  have k := hP I J h
  obtain ⟨⟨i0, -⟩, i1, -⟩ := h.2.2.2.2.1
  have hs := h.2.2.2.2.2.1.1
  have n01 : ¬ (0 : Int32) = 1 := by decide
  refine wX11_count ⟨fun e => ?_, fun e => ?_, fun e => ?_, fun e => ?_, fun e => ?_, fun e => ?_, fun e => ?_⟩
  · subst e
    exact wX12_count ⟨fun _ => ⟨by unfold vp_in; decide, by rw [hS.1]; exact hS.2.1.symm, k⟩, fun q => absurd q (by decide), fun q => absurd q (by decide), fun q => absurd q (by decide), fun q => absurd q (by decide), fun q => absurd q (by decide), fun q => absurd rfl q.1⟩
  · subst e
    exact wX12_count ⟨fun q => absurd q (by decide), fun _ => ⟨by unfold vp_in; decide, by rw [hC.1]; exact hC.2.1.symm, k⟩, fun q => absurd q (by decide), fun q => absurd q (by decide), fun q => absurd q (by decide), fun q => absurd q (by decide), fun q => absurd rfl q.2.1⟩
  · subst e
    exact wX12_count ⟨fun q => absurd q (by decide), fun q => absurd q (by decide), fun _ => ⟨by unfold vp_in; decide, by rw [hD.1]; exact hD.2.1.symm, k⟩, fun q => absurd q (by decide), fun q => absurd q (by decide), fun q => absurd q (by decide), fun q => absurd rfl q.2.2.1⟩
  · subst e
    exact wX12_count ⟨fun q => absurd q (by decide), fun q => absurd q (by decide), fun q => absurd q (by decide), fun _ => ⟨by rw [i0, i1], k⟩, fun q => absurd q (by decide), fun q => absurd q (by decide), fun q => absurd rfl q.2.2.2.1⟩
  · subst e
    exact wX12_count ⟨fun q => absurd q (by decide), fun q => absurd q (by decide), fun q => absurd q (by decide), fun q => absurd q (by decide), fun _ => ⟨h.1.1, k⟩, fun q => absurd q (by decide), fun q => absurd rfl q.2.2.2.2.1⟩
  · subst e
    obtain ⟨h1, h2, -⟩ := hs
    refine ⟨fun c => ?_, fun c => ?_⟩
    · refine wX12_count ⟨fun q => absurd q (by decide), fun q => absurd q (by decide), fun q => absurd q (by decide), fun q => absurd q (by decide), fun q => absurd q (by decide), fun _ => ⟨?_, k⟩, fun q => absurd rfl q.2.2.2.2.2⟩
      rcases h1 with h1 | h1
      · exact absurd h1.1 c
      · rw [if_pos (fun q => ?_), h2]
        rw [q] at h1
        exact absurd h1.2.1 (by decide)
    · refine wX12_count ⟨fun q => absurd q (by decide), fun q => absurd q (by decide), fun q => absurd q (by decide), fun q => absurd q (by decide), fun q => absurd q (by decide), fun _ => ⟨?_, k⟩, fun q => absurd rfl q.2.2.2.2.2⟩
      rcases h1 with h1 | h1
      · rw [if_neg (fun q => q h1.2)]
      · rw [c] at h1
        rw [← h1.1] at h1
        exact absurd h1.2.1 (by decide)
  · exact wX12_count ⟨fun q => absurd q e.1, fun q => absurd q e.2.1, fun q => absurd q e.2.2.1, fun q => absurd q e.2.2.2.1, fun q => absurd q e.2.2.2.2.1, fun q => absurd q e.2.2.2.2.2, fun _ => ⟨rfl, k⟩⟩
