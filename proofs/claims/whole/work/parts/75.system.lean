theorem cp_in {I : hI_} {a b n j : Nat} (h : j < n) : cpI I a b 0 0 n b j = I a j := by
  have c3 : cpI I a b 0 0 n b = va_cpy (I a) (I b) 0 0 n := if_pos rfl
  rw [c3, pk_cpy_in (by omega) (by omega), Nat.zero_add, Nat.sub_zero]
theorem cp_o {I : hI_} {a b n q : Nat} (h : q ≠ b) : cpI I a b 0 0 n q = I q := if_neg h
set_option maxHeartbeats 4000000 in
set_option maxRecDepth 20000 in
theorem wX3_become {E : aE} {P : hI_ → hJ_ → Prop} {I : hI_} {J : hJ_}  (k : P (upI (upI (upI (upI (upI (cpI (cpI (cpI (cpI (cpI (cpI I 11 4 0 0 5) 12 5 0 0 25) 13 6 0 0 12) 14 7 0 0 12) 15 8 0 0 12) 16 9 0 0 3) 3 6 ((cpI (cpI (cpI (cpI (cpI (cpI I 11 4 0 0 5) 12 5 0 0 25) 13 6 0 0 12) 14 7 0 0 12) 15 8 0 0 12) 16 9 0 0 3) 10 6)) 3 7 ((cpI (cpI (cpI (cpI (cpI (cpI I 11 4 0 0 5) 12 5 0 0 25) 13 6 0 0 12) 14 7 0 0 12) 15 8 0 0 12) 16 9 0 0 3) 10 7)) 3 8 ((cpI (cpI (cpI (cpI (cpI (cpI I 11 4 0 0 5) 12 5 0 0 25) 13 6 0 0 12) 14 7 0 0 12) 15 8 0 0 12) 16 9 0 0 3) 10 8)) 3 9 ((cpI (cpI (cpI (cpI (cpI (cpI I 11 4 0 0 5) 12 5 0 0 25) 13 6 0 0 12) 14 7 0 0 12) 15 8 0 0 12) 16 9 0 0 3) 10 9)) 3 10 ((cpI (cpI (cpI (cpI (cpI (cpI I 11 4 0 0 5) 12 5 0 0 25) 13 6 0 0 12) 14 7 0 0 12) 15 8 0 0 12) 16 9 0 0 3) 10 10)) J) : CallV E mX3_become [.ref 3, .ref 10] SH I J P := by
  refine Call_of (L := [.ref 3, .ref 10]) ok_X3_become.1 rfl rfl ?_
  refine V_aload_n dX3_become_0 rfl ?_
  refine U_getR dX3_become_1 fl_X3_9 s_10 rfl ?_
  refine V_iconst (v := (0 : Int32)) dX3_become_4 rfl ?_
  refine V_aload_n dX3_become_5 rfl ?_
  refine U_getR dX3_become_6 fl_X3_9 s_3 rfl ?_
  refine V_iconst (v := (0 : Int32)) dX3_become_9 rfl ?_
  refine V_iconst (v := (5 : Int32)) dX3_become_10 rfl ?_
  refine U_copyI dX3_become_11 oa_X3_55 s_11 s_4 (by decide) (by decide) (by decide) (by decide) (by decide) rfl ?_
  refine V_aload_n dX3_become_14 rfl ?_
  refine U_getR dX3_become_15 fl_X3_15 s_10 rfl ?_
  refine V_iconst (v := (0 : Int32)) dX3_become_18 rfl ?_
  refine V_aload_n dX3_become_19 rfl ?_
  refine U_getR dX3_become_20 fl_X3_15 s_3 rfl ?_
  refine V_iconst (v := (0 : Int32)) dX3_become_23 rfl ?_
  refine V_bipush (v := (25 : Int32)) dX3_become_24 rfl ?_
  refine U_copyI dX3_become_26 oa_X3_55 s_12 s_5 (by decide) (by decide) (by decide) (by decide) (by decide) rfl ?_
  refine V_aload_n dX3_become_29 rfl ?_
  refine U_getR dX3_become_30 fl_X3_18 s_10 rfl ?_
  refine V_iconst (v := (0 : Int32)) dX3_become_33 rfl ?_
  refine V_aload_n dX3_become_34 rfl ?_
  refine U_getR dX3_become_35 fl_X3_18 s_3 rfl ?_
  refine V_iconst (v := (0 : Int32)) dX3_become_38 rfl ?_
  refine V_bipush (v := (12 : Int32)) dX3_become_39 rfl ?_
  refine U_copyI dX3_become_41 oa_X3_55 s_13 s_6 (by decide) (by decide) (by decide) (by decide) (by decide) rfl ?_
  refine V_aload_n dX3_become_44 rfl ?_
  refine U_getR dX3_become_45 fl_X3_21 s_10 rfl ?_
  refine V_iconst (v := (0 : Int32)) dX3_become_48 rfl ?_
  refine V_aload_n dX3_become_49 rfl ?_
  refine U_getR dX3_become_50 fl_X3_21 s_3 rfl ?_
  refine V_iconst (v := (0 : Int32)) dX3_become_53 rfl ?_
  refine V_bipush (v := (12 : Int32)) dX3_become_54 rfl ?_
  refine U_copyI dX3_become_56 oa_X3_55 s_14 s_7 (by decide) (by decide) (by decide) (by decide) (by decide) rfl ?_
  refine V_aload_n dX3_become_59 rfl ?_
  refine U_getR dX3_become_60 fl_X3_24 s_10 rfl ?_
  refine V_iconst (v := (0 : Int32)) dX3_become_63 rfl ?_
  refine V_aload_n dX3_become_64 rfl ?_
  refine U_getR dX3_become_65 fl_X3_24 s_3 rfl ?_
  refine V_iconst (v := (0 : Int32)) dX3_become_68 rfl ?_
  refine V_bipush (v := (12 : Int32)) dX3_become_69 rfl ?_
  refine U_copyI dX3_become_71 oa_X3_55 s_15 s_8 (by decide) (by decide) (by decide) (by decide) (by decide) rfl ?_
  refine V_aload_n dX3_become_74 rfl ?_
  refine U_getR dX3_become_75 fl_X3_27 s_10 rfl ?_
  refine V_iconst (v := (0 : Int32)) dX3_become_78 rfl ?_
  refine V_aload_n dX3_become_79 rfl ?_
  refine U_getR dX3_become_80 fl_X3_27 s_3 rfl ?_
  refine V_iconst (v := (0 : Int32)) dX3_become_83 rfl ?_
  refine V_iconst (v := (3 : Int32)) dX3_become_84 rfl ?_
  refine U_copyI dX3_become_85 oa_X3_55 s_16 s_9 (by decide) (by decide) (by decide) (by decide) (by decide) rfl ?_
  refine V_aload_n dX3_become_88 rfl ?_
  refine V_aload_n dX3_become_89 rfl ?_
  refine U_getI dX3_become_90 fl_X3_39 s_10 rfl ?_
  refine U_putI dX3_become_93 fp_X3_39 s_3 rfl ?_
  refine V_aload_n dX3_become_96 rfl ?_
  refine V_aload_n dX3_become_97 rfl ?_
  refine U_getIx (x := (cpI (cpI (cpI (cpI (cpI (cpI I 11 4 0 0 5) 12 5 0 0 25) 13 6 0 0 12) 14 7 0 0 12) 15 8 0 0 12) 16 9 0 0 3) 10 7) dX3_become_98 fl_X3_43 s_10 rfl rfl ?_
  refine U_putI dX3_become_101 fp_X3_43 s_3 rfl ?_
  refine V_aload_n dX3_become_104 rfl ?_
  refine V_aload_n dX3_become_105 rfl ?_
  refine U_getIx (x := (cpI (cpI (cpI (cpI (cpI (cpI I 11 4 0 0 5) 12 5 0 0 25) 13 6 0 0 12) 14 7 0 0 12) 15 8 0 0 12) 16 9 0 0 3) 10 8) dX3_become_106 fl_X3_46 s_10 rfl rfl ?_
  refine U_putI dX3_become_109 fp_X3_46 s_3 rfl ?_
  refine V_aload_n dX3_become_112 rfl ?_
  refine V_aload_n dX3_become_113 rfl ?_
  refine U_getIx (x := (cpI (cpI (cpI (cpI (cpI (cpI I 11 4 0 0 5) 12 5 0 0 25) 13 6 0 0 12) 14 7 0 0 12) 15 8 0 0 12) 16 9 0 0 3) 10 9) dX3_become_114 fl_X3_49 s_10 rfl rfl ?_
  refine U_putI dX3_become_117 fp_X3_49 s_3 rfl ?_
  refine V_aload_n dX3_become_120 rfl ?_
  refine V_aload_n dX3_become_121 rfl ?_
  refine U_getIx (x := (cpI (cpI (cpI (cpI (cpI (cpI I 11 4 0 0 5) 12 5 0 0 25) 13 6 0 0 12) 14 7 0 0 12) 15 8 0 0 12) 16 9 0 0 3) 10 10) dX3_become_122 fl_X3_52 s_10 rfl rfl ?_
  refine U_putI dX3_become_125 fp_X3_52 s_3 rfl ?_
  exact V_vret dX3_become_128 rfl rfl rfl ⟨_, _, rfl, k⟩
set_option maxHeartbeats 4000000 in
set_option maxRecDepth 20000 in
theorem wX1_clear {E : aE} {P : hI_ → hJ_ → Prop} {I : hI_} {J : hJ_}  (k : P (upI (upI (upI I 22 3 (0 : Int32)) 24 3 (0 : Int32)) 26 3 (0 : Int32)) J) : CallV E mX1_clear [.ref 21] SH I J P := by
  refine Call_of (L := [.ref 21]) ok_X1_clear.1 rfl rfl ?_
  refine V_aload_n dX1_clear_0 rfl ?_
  refine U_getR dX1_clear_1 fl_X1_14 s_21 rfl ?_
  refine V_iconst (v := (0 : Int32)) dX1_clear_4 rfl ?_
  refine U_putI dX1_clear_5 fp_X1_30 s_22 rfl ?_
  refine V_aload_n dX1_clear_8 rfl ?_
  refine U_getR dX1_clear_9 fl_X1_20 s_21 rfl ?_
  refine V_iconst (v := (0 : Int32)) dX1_clear_12 rfl ?_
  refine U_putI dX1_clear_13 fp_X1_30 s_24 rfl ?_
  refine V_aload_n dX1_clear_16 rfl ?_
  refine U_getR dX1_clear_17 fl_X1_23 s_21 rfl ?_
  refine V_iconst (v := (0 : Int32)) dX1_clear_20 rfl ?_
  refine U_putI dX1_clear_21 fp_X1_30 s_26 rfl ?_
  exact V_vret dX1_clear_24 rfl rfl rfl ⟨_, _, rfl, k⟩
def HX11_system_65 (E : aE) (P : Int32 → hI_ → hJ_ → Prop) (v1 : Int32) (v2 : Int32) (I : hI_) (J : hJ_) : Prop := V E mX11_system (kI SH P) 65 [.ref 0, .int v1, .int v2] [] (SH, I, J) (0, 0)
set_option maxHeartbeats 4000000 in
set_option maxRecDepth 20000 in
theorem wX11_system {E : aE} {P : Int32 → hI_ → hJ_ → Prop} {I : hI_} {J : hJ_}  (k : CallI E mX4_parse [.ref 17] SH I J (fun x1 I2 J3 => (((I2 17 2) = (0 : Int32) → CallV E mX3_become [.ref 3, .ref 10] SH (upI (upI I2 1 1 (0 : Int32)) 0 12 (I2 17 2)) J3 (fun I6 J7 => CallV E mX1_clear [.ref 21] SH I6 J7 (fun I9 J10 => HX11_system_65 E P x1 (0 : Int32) I9 J10))) ∧ (¬ ((I2 17 2) = (0 : Int32)) → P ((-10 : Int32) - (I2 17 3)) (upI (upI I2 1 1 (0 : Int32)) 0 12 (I2 17 2)) J3)))) : CallI E mX11_system [.ref 0] SH I J P := by
  refine Call_of (L := [.ref 0, .retAddr 0, .retAddr 0]) ok_X11_system.1 rfl rfl ?_
  refine V_aload_n dX11_system_0 rfl ?_
  refine U_getR dX11_system_1 fl_X11_31 s_0 rfl ?_
  refine U_callV1 [] dX11_system_4 ov_X11_108 s_17 rfl ⟨rfl, rfl, rfl⟩ rfl rfl rfl (CallI_mono k (fun x1 I2 J3 k => ?_))
  refine U_istore_n (L2 := [.ref 0, .int x1, .retAddr 0]) dX11_system_7 (by decide) rfl ?_
  refine V_aload_n dX11_system_8 rfl ?_
  refine U_getR dX11_system_9 fl_X11_10 s_0 rfl ?_
  refine V_iconst (v := (0 : Int32)) dX11_system_12 rfl ?_
  refine U_putI dX11_system_13 fp_X11_100 s_1 rfl ?_
  refine V_aload_n dX11_system_16 rfl ?_
  refine V_aload_n dX11_system_17 rfl ?_
  refine U_getR dX11_system_18 fl_X11_31 s_0 rfl ?_
  refine U_getIx (x := I2 17 2) dX11_system_21 fl_X11_112 s_17 rfl rfl ?_
  refine U_putI dX11_system_24 fp_X11_115 s_0 rfl ?_
  refine V_aload_n dX11_system_27 rfl ?_
  refine U_getIx (x := I2 17 2) dX11_system_28 fl_X11_115 s_0 rfl rfl ?_
  refine V_if_eq dX11_system_31 (fun c4 => ?_) (fun c4 => ?_)
  · have k := k.1 c4
    refine V_aload_n dX11_system_45 rfl ?_
    refine U_getR dX11_system_46 fl_X11_19 s_0 rfl ?_
    refine V_aload_n dX11_system_49 rfl ?_
    refine U_getR dX11_system_50 fl_X11_23 s_0 rfl ?_
    refine U_callV0 [.ref 10] dX11_system_53 ov_X11_119 s_3 rfl ⟨rfl, rfl, rfl⟩ rfl rfl rfl (CallV_mono k (fun I6 J7 k => ?_))
    refine V_aload_n dX11_system_56 rfl ?_
    refine U_getR dX11_system_57 fl_X11_47 s_0 rfl ?_
    refine U_callV0 [] dX11_system_60 ov_X11_122 s_21 rfl ⟨rfl, rfl, rfl⟩ rfl rfl rfl (CallV_mono k (fun I9 J10 k => ?_))
    refine V_iconst (v := (0 : Int32)) dX11_system_63 rfl ?_
    refine U_istore_n (L2 := [.ref 0, .int x1, .int (0 : Int32)]) dX11_system_64 (by decide) rfl ?_
    exact k
  · have k := k.2 c4
    refine V_bipush (v := (-10 : Int32)) dX11_system_34 rfl ?_
    refine V_aload_n dX11_system_36 rfl ?_
    refine U_getR dX11_system_37 fl_X11_31 s_0 rfl ?_
    refine U_getIx (x := I2 17 3) dX11_system_40 fl_X11_116 s_17 rfl rfl ?_
    refine V_isub dX11_system_43 ?_
    exact V_iret dX11_system_44 ⟨_, rfl, rfl⟩ rfl rfl ⟨_, _, _, rfl, rfl, k⟩
set_option maxHeartbeats 4000000 in
set_option maxRecDepth 20000 in
theorem wX11_system_65 {E : aE} {P : Int32 → hI_ → hJ_ → Prop} {I : hI_} {J : hJ_} {v1 : Int32} {v2 : Int32} (k : (((2 : Int32) ≤ v2 → P v1 I J) ∧ (¬ ((2 : Int32) ≤ v2) → (vp_in v2 2) ∧ (∃ b3 b6 b7 b8 : Nat, ([49, 56].getD v2.toNatClampNeg 2 = b3 + 3) ∧ (SH[b3]? = some (.inr (1, [6, b6 + 3, b7 + 3, b8 + 3, 0]))) ∧ HX11_system_65 E P v1 (v2 + (1 : Int32)) (upI I b3 4 (0 : Int32)) J)))) : HX11_system_65 E P v1 v2 I J := by
  show V E mX11_system (kI SH P) 65 [.ref 0, .int v1, .int v2] [] (SH, I, J) (0, 0)
  refine V_iload_n dX11_system_65 rfl ?_
  refine V_iconst (v := (2 : Int32)) dX11_system_66 rfl ?_
  refine V_icmp_ge dX11_system_67 (fun c1 => ?_) (fun c1 => ?_)
  · have k := k.1 c1
    refine V_iload_n dX11_system_86 rfl ?_
    exact V_iret dX11_system_87 ⟨_, rfl, rfl⟩ rfl rfl ⟨_, _, _, rfl, rfl, k⟩
  · have k := k.2 c1
    refine V_aload_n dX11_system_70 rfl ?_
    refine U_getR dX11_system_71 fl_X11_51 s_0 rfl ?_
    refine V_iload_n dX11_system_74 rfl ?_
    obtain ⟨hb2, k⟩ := k
    obtain ⟨b3, b6, b7, b8, ha4, ha5, k⟩ := k
    refine U_aald0 (b := b3) dX11_system_75 s_28 hb2 ha4 ?_
    refine V_iconst (v := (0 : Int32)) dX11_system_76 rfl ?_
    refine U_putZ dX11_system_77 fp_X11_125 (by decide) ha5 rfl ?_
    refine U_iinc (v := v2 + (1 : Int32)) (L2 := [.ref 0, .int v1, .int (v2 + (1 : Int32))]) dX11_system_80 (by decide) rfl rfl rfl ?_
    refine V_goto dX11_system_83 ?_
    exact k
/-- the class's cells behind a good text -/
def CG (D : Nat → Nat) (I F : hI_) : Prop := (∀ a, (a = 2 ∨ (18 ≤ a ∧ a ≠ 22 ∧ a ≠ 24 ∧ a ≠ 26 ∧ a ≠ 46 ∧ a ≠ 53)) → F a = I a) ∧ (F 1 1 = 0 ∧ F 0 12 = 0 ∧ F 0 13 = I 0 13) ∧ (F 3 6 = nI (D 0) ∧ F 3 7 = nI (D 1) ∧ F 3 8 = nI (D 2) ∧ F 3 9 = nI (D 6) ∧ F 3 10 = nI (D 7)) ∧ (F 9 0 = nI (D 3) ∧ F 9 1 = nI (D 4) ∧ F 9 2 = nI (D 5)) ∧ (∀ i, i < D 0 → F 4 i = nI (D (20 + i))) ∧ (∀ a b, a < 5 → b < 5 → F 5 (prN a b) = nI (D (40 + 5 * a + b))) ∧ (∀ s, s < D 2 → F 6 s = nI (prN (D (100 + 4 * s)) (D (101 + 4 * s))) ∧ F 7 s = nI (D (102 + 4 * s)) ∧ F 8 s = nI (D (103 + 4 * s))) ∧ (F 22 3 = 0 ∧ F 24 3 = 0 ∧ F 26 3 = 0 ∧ ∀ j, j ≠ 3 → F 22 j = I 22 j ∧ F 24 j = I 24 j ∧ F 26 j = I 26 j) ∧ F 46 4 = 0 ∧ F 53 4 = 0
theorem tX11_system {E : aE} {P : Int32 → hI_ → hJ_ → Prop} {n : Nat} {B : Nat → Nat} {I : hI_} {J : hJ_} (h : XB n B I) {r : Nat × Nat × Nat × (Nat → Nat)} (hr : pars n B (n + 1) 0 0 D0 = r) (r5 : r.1 < 100) (kb : r.1 ≠ 0 → ∀ I2, frX I I2 → P ((-10) - nI r.2.1) (upI (upI I2 1 1 0) 0 12 (nI r.1)) J) (kg : r.1 = 0 → DOK r.2.2.2 → ∀ I2, CG r.2.2.2 I I2 → P (nI r.2.2.1) I2 J) : CallI E mX11_system [.ref 0] SH I J P := by
  refine wX11_system (tX4_parse h (fun x I2 f g1 g2 => ?_))
  rw [hr] at g1 g2
  by_cases z : r.1 = 0
  · obtain ⟨gx, hD, ok⟩ := g1 z
    have o1 := ok.1
    obtain ⟨⟨a1, a2, a3, a4, a5⟩, ⟨b1, b2, b3, b4⟩, ⟨c0, c1, c2⟩, d1, e1, f1⟩ := hD
    refine ⟨fun _ => ?_, fun y => absurd b4 y⟩
    generalize hK : upI (upI I2 1 1 0) 0 12 (I2 17 2) = K
    have Ko : ∀ a, a ≠ 0 → a ≠ 1 → K a = I2 a := fun a x0 x1 => by rw [← hK]; funext j; rw [upI_at, if_neg (fun u => x0 u.1), upI_at, if_neg (fun u => x1 u.1)]
    refine wX3_become ?_
    generalize hC : cpI (cpI (cpI (cpI (cpI (cpI K 11 4 0 0 5) 12 5 0 0 25) 13 6 0 0 12) 14 7 0 0 12) 15 8 0 0 12) 16 9 0 0 3 = C
    have Co : ∀ a, (a < 4 ∨ 10 ≤ a) → C a = K a := fun a ha => by rw [← hC, cp_o (by omega), cp_o (by omega), cp_o (by omega), cp_o (by omega), cp_o (by omega), cp_o (by omega)]
    have C9 : ∀ j, j < 3 → C 9 j = K 16 j := fun j hj => by rw [← hC, cp_in hj, cp_o (by omega), cp_o (by omega), cp_o (by omega), cp_o (by omega), cp_o (by omega)]
    have C8 : ∀ j, j < 12 → C 8 j = K 15 j := fun j hj => by rw [← hC, cp_o (by omega), cp_in hj, cp_o (by omega), cp_o (by omega), cp_o (by omega), cp_o (by omega)]
    have C7 : ∀ j, j < 12 → C 7 j = K 14 j := fun j hj => by rw [← hC, cp_o (by omega), cp_o (by omega), cp_in hj, cp_o (by omega), cp_o (by omega), cp_o (by omega)]
    have C6 : ∀ j, j < 12 → C 6 j = K 13 j := fun j hj => by rw [← hC, cp_o (by omega), cp_o (by omega), cp_o (by omega), cp_in hj, cp_o (by omega), cp_o (by omega)]
    have C5 : ∀ j, j < 25 → C 5 j = K 12 j := fun j hj => by rw [← hC, cp_o (by omega), cp_o (by omega), cp_o (by omega), cp_o (by omega), cp_in hj, cp_o (by omega)]
    have C4 : ∀ j, j < 5 → C 4 j = K 11 j := fun j hj => by rw [← hC, cp_o (by omega), cp_o (by omega), cp_o (by omega), cp_o (by omega), cp_o (by omega), cp_in hj]
    refine wX1_clear ?_
    generalize hL : upI (upI (upI (upI (upI (upI (upI (upI C 3 6 (C 10 6)) 3 7 (C 10 7)) 3 8 (C 10 8)) 3 9 (C 10 9)) 3 10 (C 10 10)) 22 3 0) 24 3 0) 26 3 0 = L
    have Lo : ∀ a, a ≠ 3 → a ≠ 22 → a ≠ 24 → a ≠ 26 → L a = C a := fun a x1 x2 x3 x4 => by
      rw [← hL]; funext j
      rw [upI_at, if_neg (fun u => x4 u.1), upI_at, if_neg (fun u => x3 u.1), upI_at, if_neg (fun u => x2 u.1), upI_at, if_neg (fun u => x1 u.1), upI_at, if_neg (fun u => x1 u.1), upI_at, if_neg (fun u => x1 u.1), upI_at, if_neg (fun u => x1 u.1), upI_at, if_neg (fun u => x1 u.1)]
    have kG : ∀ j, C 10 j = I2 10 j := fun j => by rw [Co 10 (by omega), Ko 10 (by omega) (by omega)]
    have fin : P (nI r.2.2.1) (upI (upI L 46 4 0) 53 4 0) J := by
      have Go : ∀ a, a ≠ 46 → a ≠ 53 → (upI (upI L 46 4 0) 53 4 0) a = L a := fun a x1 x2 => by funext j; rw [upI_at, if_neg (fun u => x2 u.1), upI_at, if_neg (fun u => x1 u.1)]
      have l3 : ∀ v : Int32, ∀ j, L 3 j = v → (upI (upI L 46 4 0) 53 4 0) 3 j = v := fun v j e => by rw [Go 3 (by omega) (by omega)]; exact e
      refine kg z ok _ ⟨fun a ha => ?_, ⟨?_, ?_, ?_⟩, ⟨l3 _ _ ?_, l3 _ _ ?_, l3 _ _ ?_, l3 _ _ ?_, l3 _ _ ?_⟩, ⟨?_, ?_, ?_⟩, fun i hi => ?_, fun a b ha hb => ?_, fun s hs => ?_, ⟨?_, ?_, ?_, fun j hj => ⟨?_, ?_, ?_⟩⟩, ?_, upI_same⟩
      · rw [Go a (by omega) (by omega), Lo a (by omega) (by omega) (by omega) (by omega), Co a (by omega), Ko a (by omega) (by omega)]; exact f.1 a (by omega)
      · rw [Go 1 (by omega) (by omega), Lo 1 (by omega) (by omega) (by omega) (by omega), Co 1 (by omega), ← hK, upI_at, if_neg (by omega)]; exact upI_same
      · rw [Go 0 (by omega) (by omega), Lo 0 (by omega) (by omega) (by omega) (by omega), Co 0 (by omega), ← hK, upI_at, if_pos ⟨rfl, rfl⟩]; exact b4
      · rw [Go 0 (by omega) (by omega), Lo 0 (by omega) (by omega) (by omega) (by omega), Co 0 (by omega), ← hK, upI_at, if_neg (by omega), upI_at, if_neg (by omega), f.1 0 (by omega)]
      · rw [← hL]; exact (kG 6).trans a1
      · rw [← hL]; exact (kG 7).trans a2
      · rw [← hL]; exact (kG 8).trans a3
      · rw [← hL]; exact (kG 9).trans a4
      · rw [← hL]; exact (kG 10).trans a5
      · rw [Go 9 (by omega) (by omega), Lo 9 (by omega) (by omega) (by omega) (by omega), C9 0 (by omega), Ko 16 (by omega) (by omega)]; exact c0
      · rw [Go 9 (by omega) (by omega), Lo 9 (by omega) (by omega) (by omega) (by omega), C9 1 (by omega), Ko 16 (by omega) (by omega)]; exact c1
      · rw [Go 9 (by omega) (by omega), Lo 9 (by omega) (by omega) (by omega) (by omega), C9 2 (by omega), Ko 16 (by omega) (by omega)]; exact c2
      · rw [Go 4 (by omega) (by omega), Lo 4 (by omega) (by omega) (by omega) (by omega), C4 i (by omega), Ko 11 (by omega) (by omega)]; exact d1 i hi
      · rw [Go 5 (by omega) (by omega), Lo 5 (by omega) (by omega) (by omega) (by omega), C5 _ (prN_25 ha hb), Ko 12 (by omega) (by omega)]; exact e1 a b ha hb
      · rw [Go 6 (by omega) (by omega), Lo 6 (by omega) (by omega) (by omega) (by omega), C6 s (by omega), Ko 13 (by omega) (by omega), Go 7 (by omega) (by omega), Lo 7 (by omega) (by omega) (by omega) (by omega), C7 s (by omega), Ko 14 (by omega) (by omega), Go 8 (by omega) (by omega), Lo 8 (by omega) (by omega) (by omega) (by omega), C8 s (by omega), Ko 15 (by omega) (by omega)]
        exact f1 s hs
      · rw [Go 22 (by omega) (by omega), ← hL]; rfl
      · rw [Go 24 (by omega) (by omega), ← hL]; rfl
      · rw [Go 26 (by omega) (by omega), ← hL]; rfl
      · rw [Go 22 (by omega) (by omega), ← hL, upI_at, if_neg (by omega), upI_at, if_neg (by omega), upI_at, if_neg (fun u => hj u.2), upI_at, if_neg (by omega), upI_at, if_neg (by omega), upI_at, if_neg (by omega), upI_at, if_neg (by omega), upI_at, if_neg (by omega), Co 22 (by omega), Ko 22 (by omega) (by omega), f.1 22 (by omega)]
      · rw [Go 24 (by omega) (by omega), ← hL, upI_at, if_neg (by omega), upI_at, if_neg (fun u => hj u.2), upI_at, if_neg (by omega), upI_at, if_neg (by omega), upI_at, if_neg (by omega), upI_at, if_neg (by omega), upI_at, if_neg (by omega), upI_at, if_neg (by omega), Co 24 (by omega), Ko 24 (by omega) (by omega), f.1 24 (by omega)]
      · rw [Go 26 (by omega) (by omega), ← hL, upI_at, if_neg (fun u => hj u.2), upI_at, if_neg (by omega), upI_at, if_neg (by omega), upI_at, if_neg (by omega), upI_at, if_neg (by omega), upI_at, if_neg (by omega), upI_at, if_neg (by omega), upI_at, if_neg (by omega), Co 26 (by omega), Ko 26 (by omega) (by omega), f.1 26 (by omega)]
      · rw [upI_at, if_neg (by omega)]; exact upI_same
    rw [gx]
    refine wX11_system_65 ⟨fun y => absurd y (by decide), fun _ => ⟨show vp_in (nI 0) 2 from vp_in_nI (by omega) (by omega), 46, 47, 49, 51, rfl, s_46, ?_⟩⟩
    refine wX11_system_65 ⟨fun y => absurd y (by decide), fun _ => ⟨show vp_in (nI 1) 2 from vp_in_nI (by omega) (by omega), 53, 54, 56, 58, rfl, s_53, ?_⟩⟩
    exact wX11_system_65 ⟨fun _ => fin, fun y => absurd (by decide) y⟩
  · obtain ⟨g17, g173⟩ := g2 z
    refine ⟨fun y => ?_, fun _ => ?_⟩
    · rw [g17] at y
      have := (nI_eqI (b := 0) (by omega) (by omega)).mp y
      omega
    · rw [g17, g173]
      exact kb z I2 f
theorem bet_N {lo hi : Int} {x : Nat} (hx : x < 1000000) (h : lo ≤ x ∧ (x : Int) ≤ hi) : bet lo (nI x) hi := by
  unfold bet
  rw [nI_toInt (by omega)]; exact h
/-- behind a bad text all is as it was, but for the fault -/
theorem Rel_bad {I I3 : hI_} (h : Rel I) (ho : ∀ a, (2 ≤ a ∧ a < 10) ∨ (18 ≤ a ∧ a < 68) ∨ (69 ≤ a ∧ a < 77) ∨ 81 ≤ a → I3 a = I a) (h1 : I3 1 1 = 0) (h2 : I3 68 1 = 0) (h3 : I3 0 12 = I3 68 2) (h4 : I3 0 13 = I 0 13) (h5 : I3 68 37 = I 68 37) : Rel I3 := by
  obtain ⟨-, r2, r3, r4, r5, r6, r7, -, r9⟩ := h
  refine ⟨?_, ?_, ?_, ?_, ?_, ?_, ?_, h3, by rw [h4, h5]; exact r9⟩
  · rw [h1, h2]
    refine ⟨rfl, by decide, by decide, fun k hk => ?_⟩
    have : (0 : Int32).toInt = 0 := rfl
    omega
  · unfold RPlanI at r2 ⊢
    rw [ho 3 (by omega), ho 4 (by omega), ho 5 (by omega), ho 6 (by omega), ho 7 (by omega), ho 8 (by omega), ho 9 (by omega), ho 73 (by omega), ho 74 (by omega), ho 75 (by omega), ho 76 (by omega)]
    exact r2
  · unfold RRows at r3 ⊢
    rw [ho 22 (by omega), ho 24 (by omega), ho 26 (by omega), ho 47 (by omega), ho 49 (by omega), ho 51 (by omega), ho 54 (by omega), ho 56 (by omega), ho 58 (by omega)]
    exact r3
  · unfold RLedI wI at r4 ⊢
    rw [ho 22 (by omega), ho 23 (by omega), ho 24 (by omega), ho 25 (by omega), ho 26 (by omega), ho 27 (by omega), ho 82 (by omega), ho 73 (by omega), ho 75 (by omega), ho 76 (by omega)]
    exact r4
  · unfold RImgI wI at r5 ⊢
    rw [ho 46 (by omega), ho 90 (by omega), ho 47 (by omega), ho 48 (by omega), ho 49 (by omega), ho 50 (by omega), ho 51 (by omega), ho 52 (by omega), ho 82 (by omega), ho 73 (by omega), ho 75 (by omega), ho 76 (by omega), ho 53 (by omega), ho 54 (by omega), ho 55 (by omega), ho 56 (by omega), ho 57 (by omega), ho 58 (by omega), ho 59 (by omega)]
    exact r5
  · unfold RSheetI at r6 ⊢
    rw [ho 60 (by omega), ho 61 (by omega), ho 62 (by omega), ho 63 (by omega), ho 64 (by omega), ho 65 (by omega), ho 66 (by omega), ho 67 (by omega), ho 91 (by omega), ho 92 (by omega), ho 93 (by omega)]
    exact r6
  · rw [ho 70 (by omega), ho 71 (by omega), ho 72 (by omega)]
    exact r7
theorem Rel_sys {I F G : hI_} {D : Nat → Nat} (h : Rel I) (ok : DOK D) (hC : CG D I F) (hS : SYS D F G) : Rel G := by
  obtain ⟨-, r2, r3, r4, r5, r6, r7, -, r9⟩ := h
  obtain ⟨c1, ⟨c2a, c2b, c2c⟩, ⟨c3a, c3b, c3c, c3d, c3e⟩, ⟨c4a, c4b, c4c⟩, c5, c6, c7, ⟨c8a, c8b, c8c, c8d⟩, c9, c10⟩ := hC
  obtain ⟨s1, ⟨s2a, s2b, s2c⟩, ⟨s3, s4, s5, s6⟩, ⟨s7a, s7b, s7c⟩, s8, s9⟩ := hS
  obtain ⟨⟨o0, o2, o6, o7, o7', -⟩, ⟨o3, o4, o5, osum⟩, op, ow, os⟩ := ok
  have g : ∀ a, a < 68 → G a = F a := fun a ha => s1 a (by omega)
  have z0 : (0 : Int32).toInt = 0 := rfl
  refine ⟨?_, ?_, ?_, ?_, ?_, ?_, ?_, ?_, ?_⟩
  · rw [g 1 (by omega), c2a, s2a]
    refine ⟨rfl, by decide, by decide, fun k hk => ?_⟩
    omega
  · unfold RPlanI
    rw [g 3 (by omega), g 4 (by omega), g 5 (by omega), g 6 (by omega), g 7 (by omega), g 8 (by omega), g 9 (by omega)]
    refine ⟨⟨?_, ?_⟩, ?_, ⟨?_, ?_⟩, ⟨?_, ?_, ?_⟩, ⟨?_, ?_, ?_, ?_⟩, ⟨?_, ?_⟩, ⟨?_, ?_⟩, fun i hi => ?_, fun a b ha hb => ?_, fun s hs => ?_⟩
    · rw [c3a, s3 0 (by omega)]
    · rw [s3 0 (by omega)]; exact bet_N (by omega) (by omega)
    · rw [c3b, s3 1 (by omega)]
    · rw [c3c, s3 2 (by omega)]
    · rw [s3 2 (by omega)]; exact bet_N (by omega) (by omega)
    · rw [c4a, s3 3 (by omega)]
    · rw [c4b, s3 4 (by omega)]
    · rw [c4c, s3 5 (by omega)]
    · rw [s3 3 (by omega)]; exact bet_N (by omega) (by omega)
    · rw [s3 4 (by omega)]; exact bet_N (by omega) (by omega)
    · rw [s3 5 (by omega)]; exact bet_N (by omega) (by omega)
    · rw [s3 3 (by omega), s3 4 (by omega), s3 5 (by omega), nI_toInt (by omega), nI_toInt (by omega), nI_toInt (by omega)]; omega
    · rw [c3d, s3 6 (by omega)]
    · rw [s3 6 (by omega)]; exact bet_N (by omega) (by omega)
    · rw [c3e, s3 7 (by omega)]
    · rw [s3 7 (by omega)]; exact bet_N (by omega) (by omega)
    · rw [s3 0 (by omega), nI_toInt (by omega)] at hi
      have := op i (by omega)
      rw [c5 i (by omega), s4 i (by omega)]
      exact ⟨rfl, bet_N (by omega) (by omega)⟩
    · have := ow a b ha hb
      rw [c6 a b ha hb, s5 (5 * a + b) (by omega), show 40 + (5 * a + b) = 40 + 5 * a + b by omega, s3 0 (by omega), nI_toInt (n := D 0) (by omega)]
      refine ⟨rfl, bet_N (by omega) (by omega), fun y => ?_⟩
      rw [nI_toInt (by omega)] at y
      have := this.2.2 (by omega)
      omega
    · rw [s3 2 (by omega), nI_toInt (by omega)] at hs
      have := os s (by omega)
      have cs := c7 s (by omega)
      have e0 := s6 (4 * s) (by omega)
      have e1 := s6 (4 * s + 1) (by omega)
      have e2 := s6 (4 * s + 2) (by omega)
      have e3 := s6 (4 * s + 3) (by omega)
      rw [show 100 + (4 * s + 1) = 101 + 4 * s by omega] at e1
      rw [show 100 + (4 * s + 2) = 102 + 4 * s by omega] at e2
      rw [show 100 + (4 * s + 3) = 103 + 4 * s by omega] at e3
      refine ⟨D (100 + 4 * s), D (101 + 4 * s), this.1, this.2.1, this.2.2.1, e0, e1, cs.1, ?_, ?_, ?_, ?_, ?_⟩
      · rw [cs.2.1, e2]
      · rw [cs.2.2, e3]
      · rw [e2, nI_toInt (by omega)]; omega
      · rw [e2, e3, nI_toInt (by omega), nI_toInt (by omega)]; omega
      · rw [e3, nI_toInt (by omega)]; omega
  · obtain ⟨q1, q2, q3, q4, q5, q6, q7, q8, q9⟩ := r3
    unfold RRows
    rw [g 22 (by omega), g 24 (by omega), g 26 (by omega), g 47 (by omega), g 49 (by omega), g 51 (by omega), g 54 (by omega), g 56 (by omega), g 58 (by omega), c1 47 (by omega), c1 49 (by omega), c1 51 (by omega), c1 54 (by omega), c1 56 (by omega), c1 58 (by omega)]
    refine ⟨⟨?_, ?_, ?_, ?_⟩, ⟨?_, ?_, ?_, ?_⟩, ⟨?_, ?_, ?_, ?_⟩, q4, q5, q6, q7, q8, q9⟩
    · rw [(c8d 1 (by omega)).1]; exact q1.1
    · rw [(c8d 0 (by omega)).1]; exact q1.2.1
    · rw [c8a]; decide
    · rw [c8a]; decide
    · rw [(c8d 1 (by omega)).2.1]; exact q2.1
    · rw [(c8d 0 (by omega)).2.1]; exact q2.2.1
    · rw [c8b]; decide
    · rw [c8b]; decide
    · rw [(c8d 1 (by omega)).2.2]; exact q3.1
    · rw [(c8d 0 (by omega)).2.2]; exact q3.2.1
    · rw [c8c]; decide
    · rw [c8c]; decide
  · unfold RLedI
    rw [g 22 (by omega), g 24 (by omega), g 26 (by omega)]
    refine ⟨⟨?_, fun k hk => ?_⟩, ⟨?_, fun k hk => ?_⟩, ?_, fun k hk => ?_⟩
    · rw [c8a]; exact s7a.symm
    · rw [c8a] at hk; omega
    · rw [c8b]; exact s7b.symm
    · rw [c8b] at hk; omega
    · rw [c8c]; exact s7c.symm
    · rw [c8c] at hk; omega
  · unfold RImgI
    rw [g 46 (by omega), g 53 (by omega), c9, c10, s8, s9]
    exact ⟨⟨rfl, Or.inl rfl⟩, rfl, Or.inl rfl⟩
  · unfold RSheetI at r6 ⊢
    rw [g 60 (by omega), g 61 (by omega), g 62 (by omega), g 63 (by omega), g 64 (by omega), g 65 (by omega), g 66 (by omega), g 67 (by omega), s1 91 (by omega), s1 92 (by omega), s1 93 (by omega), c1 60 (by omega), c1 61 (by omega), c1 62 (by omega), c1 63 (by omega), c1 64 (by omega), c1 65 (by omega), c1 66 (by omega), c1 67 (by omega), c1 91 (by omega), c1 92 (by omega), c1 93 (by omega)]
    exact r6
  · rw [s1 70 (by omega), s1 71 (by omega), s1 72 (by omega), c1 70 (by omega), c1 71 (by omega), c1 72 (by omega)]
    exact r7
  · rw [g 0 (by omega), c2b, s2b]
  · rw [g 0 (by omega), c2c, s2c, c1 68 (by omega)]
    exact r9
theorem pars_le {n : Nat} {B : Nat → Nat} : ∀ f k l D, (pars n B f k l D).1 ≤ 5
  | 0, k, l, D => Nat.zero_le _
  | f + 1, k, l, D => by
    have ll := line_le n B k D
    have ih := pars_le (n := n) (B := B) f (tE n B (line n B k D).2.2.1) (l + 1) (line n B k D).2.2.2
    rw [pars_s]
    show le5 _
    exact le5_i (le5_n (by omega)) (le5_i (le5_n (by omega)) (le5_i (le5_i (le5_i (le5_n (by omega)) (le5_i ih (le5_n (by omega)))) (le5_n ll)) (le5_n (by omega))))
theorem op_system {E : aE} {I : hI_} {J : hJ_} {P : hI_ → hJ_ → Prop} (h : Rel I) (hP : ∀ I2 J2, Rel I2 → P I2 J2) : Op2 E mX11_system mX12_system [] I J P := by
  obtain ⟨t1, t2, t3, t4⟩ := h.1
  have hc := h.2.2.2.2.2.2.1
  generalize hn : (I 1 1).toInt.toNat = n
  have e1 : I 1 1 = nI n := by rw [← hn]; exact ofT t2
  have hB : ∀ k, k < n → I 69 k = nI ((I 69 k).toInt.toNat) ∧ (I 69 k).toInt.toNat < 256 ∧ I 2 k = cbt ((I 69 k).toInt.toNat) := fun k hk => by
    have := t4 k (by omega)
    have e := ofT this.2.1
    refine ⟨e, by omega, ?_⟩
    rw [this.1]
    unfold cbt
    rw [← e]
  have hX : XB n (fun k => (I 69 k).toInt.toNat) I := ⟨e1, by omega, fun i hi => ⟨(hB i hi).2.2, (hB i hi).2.1⟩⟩
  have hM : MB n (fun k => (I 69 k).toInt.toNat) I := ⟨t1.symm.trans e1, by omega, fun i hi => ⟨(hB i hi).1, (hB i hi).2.1⟩⟩
  generalize hr : pars n (fun k => (I 69 k).toInt.toNat) (n + 1) 0 0 D0 = r
  have r5 : r.1 ≤ 5 := by rw [← hr]; exact pars_le _ _ _ _
  refine tX11_system hX hr (by omega) (fun z I2 f => ?_) (fun z ok F hF => ?_)
  · generalize hK : upI (upI I2 1 1 0) 0 12 (nI r.1) = K
    have Ko : ∀ a, (2 ≤ a ∧ a < 10) ∨ 18 ≤ a → K a = I a := fun a ha => by
      rw [← f.1 a (by omega), ← hK]; funext j; rw [upI_at, if_neg (by omega), upI_at, if_neg (by omega)]
    have hMK : MB n (fun k => (I 69 k).toInt.toNat) K := ⟨by rw [Ko 68 (by omega)]; exact hM.1, hM.2.1, by rw [Ko 69 (by omega)]; exact hM.2.2⟩
    refine tX12_system hMK (by rw [Ko 70 (by omega), Ko 71 (by omega), Ko 72 (by omega)]; exact hc) hr (fun y => absurd y z) (fun _ I4 f4 => ⟨rfl, hP _ _ ?_⟩) (fun y => absurd y z)
    refine Rel_bad h (fun a ha => ?_) ?_ ?_ ?_ ?_ ?_
    · rw [← Ko a (by omega), ← f4.1 a (by omega)]; funext j; rw [upI_at, if_neg (by omega), upI_at, if_neg (by omega)]
    · rw [upI_at, if_neg (by omega), upI_at, if_neg (by omega), f4.1 1 (by omega), ← hK, upI_at, if_neg (by omega)]; exact upI_same
    · rw [upI_at, if_neg (by omega)]; exact upI_same
    · rw [upI_at, if_neg (by omega), upI_at, if_neg (by omega), f4.1 0 (by omega), ← hK, upI_at, if_pos ⟨rfl, rfl⟩, upI_at, if_pos ⟨rfl, rfl⟩]
    · rw [upI_at, if_neg (by omega), upI_at, if_neg (by omega), f4.1 0 (by omega), ← hK, upI_at, if_neg (by omega), upI_at, if_neg (by omega), f.1 0 (by omega)]
    · rw [upI_at, if_neg (by omega), upI_at, if_neg (by omega), f4.2 37 (by omega), Ko 68 (by omega)]
  · have Fo := hF.1
    have hMF : MB n (fun k => (I 69 k).toInt.toNat) F := ⟨by rw [Fo 68 (by omega)]; exact hM.1, hM.2.1, by rw [Fo 69 (by omega)]; exact hM.2.2⟩
    exact tX12_system hMF (by rw [Fo 70 (by omega), Fo 71 (by omega), Fo 72 (by omega)]; exact hc) hr (fun _ => ok) (fun y => absurd z y) (fun _ G hG => ⟨rfl, hP G J (Rel_sys h ok hF hG)⟩)
