def HX11_read_99 (E : aE) (P : Int32 → hI_ → hJ_ → Prop) (v1 : Int32) (v3 : Int32) (v5 : Int32) (v6 : Int32) (v7 : Int32) (v8 : Int32) (I : hI_) (J : hJ_) : Prop := V E mX11_read (kI SH P) 99 [.ref 0, .int v1, .retAddr 0, .int v3, .retAddr 0, .int v5, .int v6, .int v7, .int v8, .retAddr 0, .retAddr 0] [] (SH, I, J) (0, 0)
set_option maxHeartbeats 4000000 in
set_option maxRecDepth 20000 in
theorem wX11_read {E : aE} {P : Int32 → hI_ → hJ_ → Prop} {I : hI_} {J : hJ_} {a0 : Int32} {a1 : Int32} {a2 : Int32} {a3 : Int32} (k : ((¬ (0 ≤ a0 ∧ a0 ≤ 3) → P (-1 : Int32) I J) ∧ ((0 ≤ a0 ∧ a0 ≤ 3) → ((¬ (0 ≤ a1 ∧ a1 ≤ 2) → P (-1 : Int32) I J) ∧ ((0 ≤ a1 ∧ a1 ≤ 2) → ((((0 : Int32) ≤ a3 ∧ a3 ≤ (13 : Int32)) → ((¬ a3 = (0 : Int32) → (vp_in a0 4) ∧ (∃ b6 b9 : Nat, ([63, 65, 67, 69].getD a0.toNatClampNeg 2 = b6 + 3) ∧ (SH[b6]? = some (.inr (6, [b9 + 3, 0, 0]))) ∧ (SH[b9]? = some (.inl (0, 40, []))) ∧ ((¬ (if I b6 1 = -1 then 1 else if I b6 1 = a1 then 0 else 3) = (0 : Int32) → HX11_read_99 E P a0 a2 (if I b6 1 = -1 then 1 else if I b6 1 = a1 then 0 else 3) (0 : Int32) (I 22 3) (0 : Int32) I J) ∧ ((if I b6 1 = -1 then 1 else if I b6 1 = a1 then 0 else 3) = (0 : Int32) → (vp_in a0 4) ∧ (∃ b13 b16 : Nat, ([63, 65, 67, 69].getD a0.toNatClampNeg 2 = b13 + 3) ∧ (SH[b13]? = some (.inr (6, [b16 + 3, 0, 0]))) ∧ (SH[b16]? = some (.inl (0, 40, []))) ∧ HX11_read_99 E P a0 a2 (if a3 ≤ (shWh I b13 a2 a3) then (0 : Int32) else (2 : Int32)) (shWh I b13 a2 a3) (I 22 3) (0 : Int32) I J))))) ∧ (a3 = (0 : Int32) → (vp_in a0 4) ∧ (∃ b2022 b2025 : Nat, ([63, 65, 67, 69].getD a0.toNatClampNeg 2 = b2022 + 3) ∧ (SH[b2022]? = some (.inr (6, [b2025 + 3, 0, 0]))) ∧ (SH[b2025]? = some (.inl (0, 40, []))) ∧ HX11_read_99 E P a0 a2 (if a3 ≤ (shWh I b2022 a2 a3) then (0 : Int32) else (2 : Int32)) (shWh I b2022 a2 a3) (I 22 3) (0 : Int32) I J)))) ∧ (¬ (((0 : Int32) ≤ a3 ∧ a3 ≤ (13 : Int32))) → P (-1 : Int32) I J))))))) : CallI E mX11_read [.ref 0, .int a0, .int a1, .int a2, .int a3] SH I J P := by
  refine Call_of (L := [.ref 0, .int a0, .int a1, .int a2, .int a3, .retAddr 0, .retAddr 0, .retAddr 0, .retAddr 0, .retAddr 0, .retAddr 0]) ok_X11_read.1 rfl rfl ?_
  refine V_iload_n dX11_read_0 rfl ?_
  refine U_callS1 [.int a0] dX11_read_1 os_X11_314 ⟨rfl, rfl, rfl⟩ rfl rfl rfl (tX11_isSheet ?_)
  refine U_ifb_eq dX11_read_4 (fun c1 => ?_) (fun c1 => ?_)
  · have k := k.1 c1
    refine V_iconst (v := (-1 : Int32)) dX11_read_25 rfl ?_
    exact V_iret dX11_read_26 ⟨_, rfl, rfl⟩ rfl rfl ⟨_, _, _, rfl, rfl, k⟩
  · have k := k.2 c1
    refine V_iload_n dX11_read_7 rfl ?_
    refine U_callS1 [.int a1] dX11_read_8 os_X11_317 ⟨rfl, rfl, rfl⟩ rfl rfl rfl (tX11_isLane ?_)
    refine U_ifb_eq dX11_read_11 (fun c2 => ?_) (fun c2 => ?_)
    · have k := k.1 c2
      refine V_iconst (v := (-1 : Int32)) dX11_read_25 rfl ?_
      exact V_iret dX11_read_26 ⟨_, rfl, rfl⟩ rfl rfl ⟨_, _, _, rfl, rfl, k⟩
    · have k := k.2 c2
      refine V_iload dX11_read_14 rfl ?_
      refine V_iconst (v := (0 : Int32)) dX11_read_16 rfl ?_
      refine V_bipush (v := (13 : Int32)) dX11_read_17 rfl ?_
      refine U_callS1 [.int a3, .int (0 : Int32), .int (13 : Int32)] dX11_read_19 os_X11_104 ⟨rfl, rfl, rfl⟩ rfl rfl rfl (tX11_within ?_)
      refine U_ifb_ne dX11_read_22 (fun c3 => ?_) (fun c3 => ?_)
      · have k := k.1 c3
        refine V_iload dX11_read_27 rfl ?_
        refine V_if_ne dX11_read_29 (fun c4 => ?_) (fun c4 => ?_)
        · have k := k.1 c4
          refine V_aload_n dX11_read_36 rfl ?_
          refine U_getR dX11_read_37 fl_X11_91 s_0 rfl ?_
          refine V_iload_n dX11_read_40 rfl ?_
          obtain ⟨hb5, k⟩ := k
          obtain ⟨b6, b9, ha7, ha8, ha10, k⟩ := k
          refine U_aald1 (b := b6) dX11_read_41 s_45 hb5 ha7 ?_
          refine V_iload_n dX11_read_42 rfl ?_
          refine U_callV1 [.int a1] dX11_read_43 ov_X11_329 ha8 rfl ⟨rfl, rfl, rfl⟩ rfl rfl rfl (tX6_faultAs ha8 ha10 ?_)
          refine U_istore (L2 := [.ref 0, .int a0, .int a1, .int a2, .int a3, .int (if I b6 1 = -1 then 1 else if I b6 1 = a1 then 0 else 3), .retAddr 0, .retAddr 0, .retAddr 0, .retAddr 0, .retAddr 0]) dX11_read_46 (by decide) rfl ?_
          refine V_iconst (v := (0 : Int32)) dX11_read_48 rfl ?_
          refine U_istore (L2 := [.ref 0, .int a0, .int a1, .int a2, .int a3, .int (if I b6 1 = -1 then 1 else if I b6 1 = a1 then 0 else 3), .int (0 : Int32), .retAddr 0, .retAddr 0, .retAddr 0, .retAddr 0]) dX11_read_49 (by decide) rfl ?_
          refine V_iload dX11_read_51 rfl ?_
          refine V_if_ne dX11_read_53 (fun c11 => ?_) (fun c11 => ?_)
          · have k := k.1 c11
            refine V_aload_n dX11_read_84 rfl ?_
            refine U_getR dX11_read_85 fl_X11_47 s_0 rfl ?_
            refine U_getR dX11_read_88 fl_X11_176 s_21 rfl ?_
            refine U_getI dX11_read_91 fl_X11_189 s_22 rfl ?_
            refine U_istore (L2 := [.ref 0, .int a0, .int a1, .int a2, .int a3, .int (if I b6 1 = -1 then 1 else if I b6 1 = a1 then 0 else 3), .int (0 : Int32), .int (I 22 3), .retAddr 0, .retAddr 0, .retAddr 0]) dX11_read_94 (by decide) rfl ?_
            refine V_iconst (v := (0 : Int32)) dX11_read_96 rfl ?_
            refine U_istore (L2 := [.ref 0, .int a0, .int a1, .int a2, .int a3, .int (if I b6 1 = -1 then 1 else if I b6 1 = a1 then 0 else 3), .int (0 : Int32), .int (I 22 3), .int (0 : Int32), .retAddr 0, .retAddr 0]) dX11_read_97 (by decide) rfl ?_
            exact V_wk (wk_eq (wk_eq (wk_j (wk_eq (wk_j (wk_eq (wk_eq (wk_eq (wk_eq (wk_j (wk_j (wk_nil)))))))))))) k
          · have k := k.2 c11
            refine V_aload_n dX11_read_56 rfl ?_
            refine U_getR dX11_read_57 fl_X11_91 s_0 rfl ?_
            refine V_iload_n dX11_read_60 rfl ?_
            obtain ⟨hb12, k⟩ := k
            obtain ⟨b13, b16, ha14, ha15, ha17, k⟩ := k
            refine U_aald1 (b := b13) dX11_read_61 s_45 hb12 ha14 ?_
            refine V_iload_n dX11_read_62 rfl ?_
            refine V_iload dX11_read_63 rfl ?_
            refine U_callV1 [.int a2, .int a3] dX11_read_65 ov_X11_332 ha15 rfl ⟨rfl, rfl, rfl⟩ rfl rfl rfl (tX6_wholeSteps ha15 ha17 ?_)
            refine U_istore (L2 := [.ref 0, .int a0, .int a1, .int a2, .int a3, .int (if I b6 1 = -1 then 1 else if I b6 1 = a1 then 0 else 3), .int (shWh I b13 a2 a3), .retAddr 0, .retAddr 0, .retAddr 0, .retAddr 0]) dX11_read_68 (by decide) rfl ?_
            refine V_iload dX11_read_70 rfl ?_
            refine V_iload dX11_read_72 rfl ?_
            have key18 : ∀ (y2019 : Int32), y2019 = (if a3 ≤ (shWh I b13 a2 a3) then (0 : Int32) else (2 : Int32)) → V E mX11_read (kI SH P) 82 [.ref 0, .int a0, .int a1, .int a2, .int a3, .int (if I b6 1 = -1 then 1 else if I b6 1 = a1 then 0 else 3), .int (shWh I b13 a2 a3), .retAddr 0, .retAddr 0, .retAddr 0, .retAddr 0] [.int y2019] (SH, I, J) (0, 0) := by
              intro y2019 ey2019
              subst ey2019
              refine U_istore (L2 := [.ref 0, .int a0, .int a1, .int a2, .int a3, .int (if a3 ≤ (shWh I b13 a2 a3) then (0 : Int32) else (2 : Int32)), .int (shWh I b13 a2 a3), .retAddr 0, .retAddr 0, .retAddr 0, .retAddr 0]) dX11_read_82 (by decide) rfl ?_
              refine V_aload_n dX11_read_84 rfl ?_
              refine U_getR dX11_read_85 fl_X11_47 s_0 rfl ?_
              refine U_getR dX11_read_88 fl_X11_176 s_21 rfl ?_
              refine U_getI dX11_read_91 fl_X11_189 s_22 rfl ?_
              refine U_istore (L2 := [.ref 0, .int a0, .int a1, .int a2, .int a3, .int (if a3 ≤ (shWh I b13 a2 a3) then (0 : Int32) else (2 : Int32)), .int (shWh I b13 a2 a3), .int (I 22 3), .retAddr 0, .retAddr 0, .retAddr 0]) dX11_read_94 (by decide) rfl ?_
              refine V_iconst (v := (0 : Int32)) dX11_read_96 rfl ?_
              refine U_istore (L2 := [.ref 0, .int a0, .int a1, .int a2, .int a3, .int (if a3 ≤ (shWh I b13 a2 a3) then (0 : Int32) else (2 : Int32)), .int (shWh I b13 a2 a3), .int (I 22 3), .int (0 : Int32), .retAddr 0, .retAddr 0]) dX11_read_97 (by decide) rfl ?_
              exact V_wk (wk_eq (wk_eq (wk_j (wk_eq (wk_j (wk_eq (wk_eq (wk_eq (wk_eq (wk_j (wk_j (wk_nil)))))))))))) k
            refine V_icmp_ge dX11_read_74 (fun c2020 => ?_) (fun c2020 => ?_)
            · refine V_iconst (v := (0 : Int32)) dX11_read_81 rfl ?_
              exact key18 _ (by rw [if_pos c2020])
            · refine V_iconst (v := (2 : Int32)) dX11_read_77 rfl ?_
              refine V_goto dX11_read_78 ?_
              exact key18 _ (by rw [if_neg c2020])
        · have k := k.2 c4
          refine V_iconst (v := (0 : Int32)) dX11_read_32 rfl ?_
          refine V_goto dX11_read_33 ?_
          refine U_istore (L2 := [.ref 0, .int a0, .int a1, .int a2, .int a3, .int (0 : Int32), .retAddr 0, .retAddr 0, .retAddr 0, .retAddr 0, .retAddr 0]) dX11_read_46 (by decide) rfl ?_
          refine V_iconst (v := (0 : Int32)) dX11_read_48 rfl ?_
          refine U_istore (L2 := [.ref 0, .int a0, .int a1, .int a2, .int a3, .int (0 : Int32), .int (0 : Int32), .retAddr 0, .retAddr 0, .retAddr 0, .retAddr 0]) dX11_read_49 (by decide) rfl ?_
          refine V_iload dX11_read_51 rfl ?_
          refine V_if_ne dX11_read_53 (fun q => absurd q (by decide)) (fun _ => ?_)
          refine V_aload_n dX11_read_56 rfl ?_
          refine U_getR dX11_read_57 fl_X11_91 s_0 rfl ?_
          refine V_iload_n dX11_read_60 rfl ?_
          obtain ⟨hb2021, k⟩ := k
          obtain ⟨b2022, b2025, ha2023, ha2024, ha2026, k⟩ := k
          refine U_aald1 (b := b2022) dX11_read_61 s_45 hb2021 ha2023 ?_
          refine V_iload_n dX11_read_62 rfl ?_
          refine V_iload dX11_read_63 rfl ?_
          refine U_callV1 [.int a2, .int a3] dX11_read_65 ov_X11_332 ha2024 rfl ⟨rfl, rfl, rfl⟩ rfl rfl rfl (tX6_wholeSteps ha2024 ha2026 ?_)
          refine U_istore (L2 := [.ref 0, .int a0, .int a1, .int a2, .int a3, .int (0 : Int32), .int (shWh I b2022 a2 a3), .retAddr 0, .retAddr 0, .retAddr 0, .retAddr 0]) dX11_read_68 (by decide) rfl ?_
          refine V_iload dX11_read_70 rfl ?_
          refine V_iload dX11_read_72 rfl ?_
          have key2027 : ∀ (y4028 : Int32), y4028 = (if a3 ≤ (shWh I b2022 a2 a3) then (0 : Int32) else (2 : Int32)) → V E mX11_read (kI SH P) 82 [.ref 0, .int a0, .int a1, .int a2, .int a3, .int (0 : Int32), .int (shWh I b2022 a2 a3), .retAddr 0, .retAddr 0, .retAddr 0, .retAddr 0] [.int y4028] (SH, I, J) (0, 0) := by
            intro y4028 ey4028
            subst ey4028
            refine U_istore (L2 := [.ref 0, .int a0, .int a1, .int a2, .int a3, .int (if a3 ≤ (shWh I b2022 a2 a3) then (0 : Int32) else (2 : Int32)), .int (shWh I b2022 a2 a3), .retAddr 0, .retAddr 0, .retAddr 0, .retAddr 0]) dX11_read_82 (by decide) rfl ?_
            refine V_aload_n dX11_read_84 rfl ?_
            refine U_getR dX11_read_85 fl_X11_47 s_0 rfl ?_
            refine U_getR dX11_read_88 fl_X11_176 s_21 rfl ?_
            refine U_getI dX11_read_91 fl_X11_189 s_22 rfl ?_
            refine U_istore (L2 := [.ref 0, .int a0, .int a1, .int a2, .int a3, .int (if a3 ≤ (shWh I b2022 a2 a3) then (0 : Int32) else (2 : Int32)), .int (shWh I b2022 a2 a3), .int (I 22 3), .retAddr 0, .retAddr 0, .retAddr 0]) dX11_read_94 (by decide) rfl ?_
            refine V_iconst (v := (0 : Int32)) dX11_read_96 rfl ?_
            refine U_istore (L2 := [.ref 0, .int a0, .int a1, .int a2, .int a3, .int (if a3 ≤ (shWh I b2022 a2 a3) then (0 : Int32) else (2 : Int32)), .int (shWh I b2022 a2 a3), .int (I 22 3), .int (0 : Int32), .retAddr 0, .retAddr 0]) dX11_read_97 (by decide) rfl ?_
            exact V_wk (wk_eq (wk_eq (wk_j (wk_eq (wk_j (wk_eq (wk_eq (wk_eq (wk_eq (wk_j (wk_j (wk_nil)))))))))))) k
          refine V_icmp_ge dX11_read_74 (fun c4029 => ?_) (fun c4029 => ?_)
          · refine V_iconst (v := (0 : Int32)) dX11_read_81 rfl ?_
            exact key2027 _ (by rw [if_pos c4029])
          · refine V_iconst (v := (2 : Int32)) dX11_read_77 rfl ?_
            refine V_goto dX11_read_78 ?_
            exact key2027 _ (by rw [if_neg c4029])
      · have k := k.2 c3
        refine V_iconst (v := (-1 : Int32)) dX11_read_25 rfl ?_
        exact V_iret dX11_read_26 ⟨_, rfl, rfl⟩ rfl rfl ⟨_, _, _, rfl, rfl, k⟩
set_option maxHeartbeats 4000000 in
set_option maxRecDepth 20000 in
theorem wX11_read_99 {E : aE} {P : Int32 → hI_ → hJ_ → Prop} {I : hI_} {J : hJ_} {v1 : Int32} {v3 : Int32} {v5 : Int32} {v6 : Int32} {v7 : Int32} {v8 : Int32} (k : ((v6 ≤ v8 → P v6 (upI I 0 13 v5) J) ∧ (¬ (v6 ≤ v8) → (vp_in v1 4) ∧ (∃ b3 b6 : Nat, ([63, 65, 67, 69].getD v1.toNatClampNeg 2 = b3 + 3) ∧ (SH[b3]? = some (.inr (6, [b6 + 3, 0, 0]))) ∧ (SH[b6]? = some (.inl (0, 40, []))) ∧ (I b3 2 ≤ 40) ∧ (vp_in v1 4) ∧ (∃ b10 b13 : Nat, ([63, 65, 67, 69].getD v1.toNatClampNeg 2 = b10 + 3) ∧ (SH[b10]? = some (.inr (6, [b13 + 3, 0, 0]))) ∧ (SH[b13]? = some (.inl (0, 40, []))) ∧ (I b10 2 ≤ 40) ∧ (vp_in v1 4) ∧ (∃ b17 b20 : Nat, ([63, 65, 67, 69].getD v1.toNatClampNeg 2 = b17 + 3) ∧ (SH[b17]? = some (.inr (6, [b20 + 3, 0, 0]))) ∧ (SH[b20]? = some (.inl (0, 40, []))) ∧ (I b17 2 ≤ 40) ∧ CallI E mX11_step [.ref 0, .int (shAt I b3 b6 (v3 + (v8 * (3 : Int32)))), .int (shAt I b10 b13 ((v3 + (v8 * (3 : Int32))) + (1 : Int32))), .int (shAt I b17 b20 ((v3 + (v8 * (3 : Int32))) + (2 : Int32)))] SH I J (fun x23 I24 J25 => (((0 : Int32) ≤ x23 → HX11_read_99 E P v1 v3 v5 v6 v7 (v8 + (1 : Int32)) I24 J25) ∧ (¬ ((0 : Int32) ≤ x23) → P (if ¬ x23 = (-3 : Int32) then ((-20 : Int32) - v8) else (-3 : Int32)) (upI I24 22 3 v7) J25))))))))) : HX11_read_99 E P v1 v3 v5 v6 v7 v8 I J := by
  show V E mX11_read (kI SH P) 99 [.ref 0, .int v1, .retAddr 0, .int v3, .retAddr 0, .int v5, .int v6, .int v7, .int v8, .retAddr 0, .retAddr 0] [] (SH, I, J) (0, 0)
  refine V_iload dX11_read_99 rfl ?_
  refine V_iload dX11_read_101 rfl ?_
  refine V_icmp_ge dX11_read_103 (fun c1 => ?_) (fun c1 => ?_)
  · have k := k.1 c1
    refine V_aload_n dX11_read_198 rfl ?_
    refine V_iload dX11_read_199 rfl ?_
    refine U_putI dX11_read_201 fp_X11_340 s_0 rfl ?_
    refine V_iload dX11_read_204 rfl ?_
    exact V_iret dX11_read_206 ⟨_, rfl, rfl⟩ rfl rfl ⟨_, _, _, rfl, rfl, k⟩
  · have k := k.2 c1
    refine V_iload_n dX11_read_106 rfl ?_
    refine V_iload dX11_read_107 rfl ?_
    refine V_iconst (v := (3 : Int32)) dX11_read_109 rfl ?_
    refine V_imul dX11_read_110 ?_
    refine V_iadd dX11_read_111 ?_
    refine U_istore (L2 := [.ref 0, .int v1, .retAddr 0, .int v3, .retAddr 0, .int v5, .int v6, .int v7, .int v8, .int (v3 + (v8 * (3 : Int32))), .retAddr 0]) dX11_read_112 (by decide) rfl ?_
    refine V_aload_n dX11_read_114 rfl ?_
    refine V_aload_n dX11_read_115 rfl ?_
    refine U_getR dX11_read_116 fl_X11_91 s_0 rfl ?_
    refine V_iload_n dX11_read_119 rfl ?_
    obtain ⟨hb2, k⟩ := k
    obtain ⟨b3, b6, ha4, ha5, ha7, k⟩ := k
    refine U_aald1 (b := b3) dX11_read_120 s_45 hb2 ha4 ?_
    refine V_iload dX11_read_121 rfl ?_
    obtain ⟨hp8, k⟩ := k
    refine U_callV1 [.int (v3 + (v8 * (3 : Int32)))] dX11_read_123 ov_X11_335 ha5 rfl ⟨rfl, rfl, rfl⟩ rfl rfl rfl (tX6_at ha5 ha7 hp8 ?_)
    refine V_aload_n dX11_read_126 rfl ?_
    refine U_getR dX11_read_127 fl_X11_91 s_0 rfl ?_
    refine V_iload_n dX11_read_130 rfl ?_
    obtain ⟨hb9, k⟩ := k
    obtain ⟨b10, b13, ha11, ha12, ha14, k⟩ := k
    refine U_aald1 (b := b10) dX11_read_131 s_45 hb9 ha11 ?_
    refine V_iload dX11_read_132 rfl ?_
    refine V_iconst (v := (1 : Int32)) dX11_read_134 rfl ?_
    refine V_iadd dX11_read_135 ?_
    obtain ⟨hp15, k⟩ := k
    refine U_callV1 [.int ((v3 + (v8 * (3 : Int32))) + (1 : Int32))] dX11_read_136 ov_X11_335 ha12 rfl ⟨rfl, rfl, rfl⟩ rfl rfl rfl (tX6_at ha12 ha14 hp15 ?_)
    refine V_aload_n dX11_read_139 rfl ?_
    refine U_getR dX11_read_140 fl_X11_91 s_0 rfl ?_
    refine V_iload_n dX11_read_143 rfl ?_
    obtain ⟨hb16, k⟩ := k
    obtain ⟨b17, b20, ha18, ha19, ha21, k⟩ := k
    refine U_aald1 (b := b17) dX11_read_144 s_45 hb16 ha18 ?_
    refine V_iload dX11_read_145 rfl ?_
    refine V_iconst (v := (2 : Int32)) dX11_read_147 rfl ?_
    refine V_iadd dX11_read_148 ?_
    obtain ⟨hp22, k⟩ := k
    refine U_callV1 [.int ((v3 + (v8 * (3 : Int32))) + (2 : Int32))] dX11_read_149 ov_X11_335 ha19 rfl ⟨rfl, rfl, rfl⟩ rfl rfl rfl (tX6_at ha19 ha21 hp22 ?_)
    refine U_callV1 [.int (shAt I b3 b6 (v3 + (v8 * (3 : Int32)))), .int (shAt I b10 b13 ((v3 + (v8 * (3 : Int32))) + (1 : Int32))), .int (shAt I b17 b20 ((v3 + (v8 * (3 : Int32))) + (2 : Int32)))] dX11_read_152 ov_X11_337 s_0 rfl ⟨rfl, rfl, rfl⟩ rfl rfl rfl (CallI_mono k (fun x23 I24 J25 k => ?_))
    refine U_istore (L2 := [.ref 0, .int v1, .retAddr 0, .int v3, .retAddr 0, .int v5, .int v6, .int v7, .int v8, .int (v3 + (v8 * (3 : Int32))), .int x23]) dX11_read_155 (by decide) rfl ?_
    refine V_iload dX11_read_157 rfl ?_
    refine V_if_ge dX11_read_159 (fun c26 => ?_) (fun c26 => ?_)
    · have k := k.1 c26
      refine U_iinc (v := v8 + (1 : Int32)) (L2 := [.ref 0, .int v1, .retAddr 0, .int v3, .retAddr 0, .int v5, .int v6, .int v7, .int (v8 + (1 : Int32)), .int (v3 + (v8 * (3 : Int32))), .int x23]) dX11_read_192 (by decide) rfl rfl rfl ?_
      refine V_goto dX11_read_195 ?_
      exact V_wk (wk_eq (wk_eq (wk_j (wk_eq (wk_j (wk_eq (wk_eq (wk_eq (wk_eq (wk_j (wk_j (wk_nil)))))))))))) k
    · have k := k.2 c26
      refine V_aload_n dX11_read_162 rfl ?_
      refine U_getR dX11_read_163 fl_X11_47 s_0 rfl ?_
      refine U_getR dX11_read_166 fl_X11_176 s_21 rfl ?_
      refine V_iload dX11_read_169 rfl ?_
      refine U_putI dX11_read_171 fp_X11_189 s_22 rfl ?_
      refine V_iload dX11_read_174 rfl ?_
      refine V_bipush (v := (-3 : Int32)) dX11_read_176 rfl ?_
      have key27 : ∀ (y2028 : Int32), y2028 = (if ¬ x23 = (-3 : Int32) then ((-20 : Int32) - v8) else (-3 : Int32)) → V E mX11_read (kI SH P) 191 [.ref 0, .int v1, .retAddr 0, .int v3, .retAddr 0, .int v5, .int v6, .int v7, .int v8, .int (v3 + (v8 * (3 : Int32))), .int x23] [.int y2028] (SH, upI I24 22 3 v7, J25) (0, 0) := by
        intro y2028 ey2028
        subst ey2028
        exact V_iret dX11_read_191 ⟨_, rfl, rfl⟩ rfl rfl ⟨_, _, _, rfl, rfl, k⟩
      refine V_icmp_ne dX11_read_178 (fun c2029 => ?_) (fun c2029 => ?_)
      · refine V_bipush (v := (-20 : Int32)) dX11_read_186 rfl ?_
        refine V_iload dX11_read_188 rfl ?_
        refine V_isub dX11_read_190 ?_
        exact key27 _ (by rw [if_pos c2029])
      · refine V_bipush (v := (-3 : Int32)) dX11_read_181 rfl ?_
        refine V_goto dX11_read_183 ?_
        exact key27 _ (by rw [if_neg (not_not_intro c2029)])
def HX12_read_48 (E : aE) (P : Int32 → hI_ → hJ_ → Prop) (v1 : Int32) (v2 : Int32) (v3 : Int32) (v4 : Int32) (v5 : Int32) (v6 : Int32) (v7 : Int32) (I : hI_) (J : hJ_) : Prop := V E mX12_read (kI SH P) 48 [.ref 68, .int v1, .int v2, .int v3, .int v4, .int v5, .int v6, .int v7, .retAddr 0] [] (SH, I, J) (0, 0)
def HX12_read_232 (E : aE) (P : Int32 → hI_ → hJ_ → Prop) (v1 : Int32) (v3 : Int32) (v5 : Int32) (v6 : Int32) (v7 : Int32) (I : hI_) (J : hJ_) : Prop := V E mX12_read (kI SH P) 232 [.ref 68, .int v1, .retAddr 0, .int v3, .retAddr 0, .int v5, .int v6, .int v7, .retAddr 0] [] (SH, I, J) (0, 0)
set_option maxHeartbeats 4000000 in
set_option maxRecDepth 20000 in
theorem wX12_read {E : aE} {P : Int32 → hI_ → hJ_ → Prop} {I : hI_} {J : hJ_} {a0 : Int32} {a1 : Int32} {a2 : Int32} {a3 : Int32} (k : ((¬ ((0 : Int32) ≤ a0 ∧ a0 ≤ (3 : Int32)) → P (-1 : Int32) I J) ∧ (((0 : Int32) ≤ a0 ∧ a0 ≤ (3 : Int32)) → ((¬ ((0 : Int32) ≤ a1 ∧ a1 ≤ (2 : Int32)) → P (-1 : Int32) I J) ∧ (((0 : Int32) ≤ a1 ∧ a1 ≤ (2 : Int32)) → ((((0 : Int32) ≤ a3 ∧ a3 ≤ (13 : Int32)) → HX12_read_48 E P a0 a1 a2 a3 (0 : Int32) (0 : Int32) (0 : Int32) I J) ∧ (¬ (((0 : Int32) ≤ a3 ∧ a3 ≤ (13 : Int32))) → P (-1 : Int32) I J))))))) : CallI E mX12_read [.ref 68, .int a0, .int a1, .int a2, .int a3] SH I J P := by
  refine Call_of (L := [.ref 68, .int a0, .int a1, .int a2, .int a3, .retAddr 0, .retAddr 0, .retAddr 0, .retAddr 0]) ok_X12_read.1 rfl rfl ?_
  refine V_iload_n dX12_read_0 rfl ?_
  refine V_i2l dX12_read_1 ?_
  refine V_lconst (v := (0 : Int64)) dX12_read_2 rfl ?_
  refine V_ldc2_w (v := (3 : Int64)) dX12_read_3 (gt_6 64 rfl rfl) ?_
  refine U_callS1 [.long a0.toInt64, .long (0 : Int64), .long (3 : Int64)] dX12_read_6 os_X12_91 ⟨rfl, rfl, rfl⟩ rfl rfl rfl (tX12_in32 (v := a0) (lo := (0 : Int32)) (hi := (3 : Int32)) rfl (by decide) (by decide) ?_)
  refine U_ifb_eq dX12_read_9 (fun c1 => ?_) (fun c1 => ?_)
  · have k := k.1 c1
    refine V_iconst (v := (-1 : Int32)) dX12_read_37 rfl ?_
    exact V_iret dX12_read_38 ⟨_, rfl, rfl⟩ rfl rfl ⟨_, _, _, rfl, rfl, k⟩
  · have k := k.2 c1
    refine V_iload_n dX12_read_12 rfl ?_
    refine V_i2l dX12_read_13 ?_
    refine V_lconst (v := (0 : Int64)) dX12_read_14 rfl ?_
    refine V_ldc2_w (v := (2 : Int64)) dX12_read_15 (gt_6 39 rfl rfl) ?_
    refine U_callS1 [.long a1.toInt64, .long (0 : Int64), .long (2 : Int64)] dX12_read_18 os_X12_91 ⟨rfl, rfl, rfl⟩ rfl rfl rfl (tX12_in32 (v := a1) (lo := (0 : Int32)) (hi := (2 : Int32)) rfl (by decide) (by decide) ?_)
    refine U_ifb_eq dX12_read_21 (fun c2 => ?_) (fun c2 => ?_)
    · have k := k.1 c2
      refine V_iconst (v := (-1 : Int32)) dX12_read_37 rfl ?_
      exact V_iret dX12_read_38 ⟨_, rfl, rfl⟩ rfl rfl ⟨_, _, _, rfl, rfl, k⟩
    · have k := k.2 c2
      refine V_iload dX12_read_24 rfl ?_
      refine V_i2l dX12_read_26 ?_
      refine V_lconst (v := (0 : Int64)) dX12_read_27 rfl ?_
      refine V_ldc2_w (v := (13 : Int64)) dX12_read_28 (gt_7 30 rfl rfl) ?_
      refine U_callS1 [.long a3.toInt64, .long (0 : Int64), .long (13 : Int64)] dX12_read_31 os_X12_91 ⟨rfl, rfl, rfl⟩ rfl rfl rfl (tX12_in32 (v := a3) (lo := (0 : Int32)) (hi := (13 : Int32)) rfl (by decide) (by decide) ?_)
      refine U_ifb_ne dX12_read_34 (fun c3 => ?_) (fun c3 => ?_)
      · have k := k.1 c3
        refine V_iconst (v := (0 : Int32)) dX12_read_39 rfl ?_
        refine U_istore (L2 := [.ref 68, .int a0, .int a1, .int a2, .int a3, .int (0 : Int32), .retAddr 0, .retAddr 0, .retAddr 0]) dX12_read_40 (by decide) rfl ?_
        refine V_iconst (v := (0 : Int32)) dX12_read_42 rfl ?_
        refine U_istore (L2 := [.ref 68, .int a0, .int a1, .int a2, .int a3, .int (0 : Int32), .int (0 : Int32), .retAddr 0, .retAddr 0]) dX12_read_43 (by decide) rfl ?_
        refine V_iconst (v := (0 : Int32)) dX12_read_45 rfl ?_
        refine U_istore (L2 := [.ref 68, .int a0, .int a1, .int a2, .int a3, .int (0 : Int32), .int (0 : Int32), .int (0 : Int32), .retAddr 0]) dX12_read_46 (by decide) rfl ?_
        exact k
      · have k := k.2 c3
        refine V_iconst (v := (-1 : Int32)) dX12_read_37 rfl ?_
        exact V_iret dX12_read_38 ⟨_, rfl, rfl⟩ rfl rfl ⟨_, _, _, rfl, rfl, k⟩
set_option maxHeartbeats 4000000 in
set_option maxRecDepth 20000 in
theorem wX12_read_48 {E : aE} {P : Int32 → hI_ → hJ_ → Prop} {I : hI_} {J : hJ_} {v1 : Int32} {v2 : Int32} {v3 : Int32} {v4 : Int32} {v5 : Int32} {v6 : Int32} {v7 : Int32} (k : ((((3 : Int32) * v4) ≤ v7 → HX12_read_232 E P v1 v3 v5 v6 (0 : Int32) I J) ∧ (¬ (((3 : Int32) * v4) ≤ v7) → ((¬ v5 = (0 : Int32) → HX12_read_232 E P v1 v3 v5 v6 (0 : Int32) I J) ∧ (v5 = (0 : Int32) → (vp_in v1 4) ∧ ((¬ (I 91 v1.toNatClampNeg) = (-4 : Int32)) → vp_in v1 4) ∧ ((¬ (I 91 v1.toNatClampNeg) = (-4 : Int32)) → ((I 91 v1.toNatClampNeg) = v2) → vp_in v1 4) ∧ ((¬ (if ¬ (I 91 v1.toNatClampNeg) = (-4 : Int32) then (if (I 91 v1.toNatClampNeg) = v2 then (if ((0 : Int64) ≤ (v3.toInt64 + v7.toInt64) ∧ (v3.toInt64 + v7.toInt64) ≤ (((I 92 v1.toNatClampNeg) - (1 : Int32)).toInt64)) then (0 : Int32) else (2 : Int32)) else (3 : Int32)) else (1 : Int32)) = (0 : Int32) → HX12_read_48 E P v1 v2 v3 v4 (if ¬ (I 91 v1.toNatClampNeg) = (-4 : Int32) then (if (I 91 v1.toNatClampNeg) = v2 then (if ((0 : Int64) ≤ (v3.toInt64 + v7.toInt64) ∧ (v3.toInt64 + v7.toInt64) ≤ (((I 92 v1.toNatClampNeg) - (1 : Int32)).toInt64)) then (0 : Int32) else (2 : Int32)) else (3 : Int32)) else (1 : Int32)) v6 (v7 + (1 : Int32)) I J) ∧ ((if ¬ (I 91 v1.toNatClampNeg) = (-4 : Int32) then (if (I 91 v1.toNatClampNeg) = v2 then (if ((0 : Int64) ≤ (v3.toInt64 + v7.toInt64) ∧ (v3.toInt64 + v7.toInt64) ≤ (((I 92 v1.toNatClampNeg) - (1 : Int32)).toInt64)) then (0 : Int32) else (2 : Int32)) else (3 : Int32)) else (1 : Int32)) = (0 : Int32) → ((¬ (v7 - v7 / (3 : Int32) * (3 : Int32)) = (2 : Int32) → HX12_read_48 E P v1 v2 v3 v4 (if ¬ (I 91 v1.toNatClampNeg) = (-4 : Int32) then (if (I 91 v1.toNatClampNeg) = v2 then (if ((0 : Int64) ≤ (v3.toInt64 + v7.toInt64) ∧ (v3.toInt64 + v7.toInt64) ≤ (((I 92 v1.toNatClampNeg) - (1 : Int32)).toInt64)) then (0 : Int32) else (2 : Int32)) else (3 : Int32)) else (1 : Int32)) v6 (v7 + (1 : Int32)) I J) ∧ ((v7 - v7 / (3 : Int32) * (3 : Int32)) = (2 : Int32) → (vp_in (((((40 : Int32) * v1) + v3) + v7) - (2 : Int32)) 160) ∧ ((¬ (0 ≤ (I 93 (((((40 : Int32) * v1) + v3) + v7) - (2 : Int32)).toNatClampNeg) ∧ (I 93 (((((40 : Int32) * v1) + v3) + v7) - (2 : Int32)).toNatClampNeg) ≤ I 73 0 - 1) → P ((-20 : Int32) - v6) I J) ∧ ((0 ≤ (I 93 (((((40 : Int32) * v1) + v3) + v7) - (2 : Int32)).toNatClampNeg) ∧ (I 93 (((((40 : Int32) * v1) + v3) + v7) - (2 : Int32)).toNatClampNeg) ≤ I 73 0 - 1) → (vp_in ((((((40 : Int32) * v1) + v3) + v7) - (2 : Int32)) + (1 : Int32)) 160) ∧ ((¬ (0 ≤ (I 93 ((((((40 : Int32) * v1) + v3) + v7) - (2 : Int32)) + (1 : Int32)).toNatClampNeg) ∧ (I 93 ((((((40 : Int32) * v1) + v3) + v7) - (2 : Int32)) + (1 : Int32)).toNatClampNeg) ≤ 999) → P ((-20 : Int32) - v6) I J) ∧ ((0 ≤ (I 93 ((((((40 : Int32) * v1) + v3) + v7) - (2 : Int32)) + (1 : Int32)).toNatClampNeg) ∧ (I 93 ((((((40 : Int32) * v1) + v3) + v7) - (2 : Int32)) + (1 : Int32)).toNatClampNeg) ≤ 999) → (vp_in ((((((40 : Int32) * v1) + v3) + v7) - (2 : Int32)) + (2 : Int32)) 160) ∧ ((((1 : Int32) ≤ (I 93 ((((((40 : Int32) * v1) + v3) + v7) - (2 : Int32)) + (2 : Int32)).toNatClampNeg) ∧ (I 93 ((((((40 : Int32) * v1) + v3) + v7) - (2 : Int32)) + (2 : Int32)).toNatClampNeg) ≤ (999 : Int32)) → ((¬ ((I 82 280) + v6) = (24 : Int32) → HX12_read_48 E P v1 v2 v3 v4 (if ¬ (I 91 v1.toNatClampNeg) = (-4 : Int32) then (if (I 91 v1.toNatClampNeg) = v2 then (if ((0 : Int64) ≤ (v3.toInt64 + v7.toInt64) ∧ (v3.toInt64 + v7.toInt64) ≤ (((I 92 v1.toNatClampNeg) - (1 : Int32)).toInt64)) then (0 : Int32) else (2 : Int32)) else (3 : Int32)) else (1 : Int32)) (v6 + (1 : Int32)) (v7 + (1 : Int32)) I J) ∧ (((I 82 280) + v6) = (24 : Int32) → P (-3 : Int32) I J))) ∧ (¬ (((1 : Int32) ≤ (I 93 ((((((40 : Int32) * v1) + v3) + v7) - (2 : Int32)) + (2 : Int32)).toNatClampNeg) ∧ (I 93 ((((((40 : Int32) * v1) + v3) + v7) - (2 : Int32)) + (2 : Int32)).toNatClampNeg) ≤ (999 : Int32))) → P ((-20 : Int32) - v6) I J))))))))))))))) : HX12_read_48 E P v1 v2 v3 v4 v5 v6 v7 I J := by
  show V E mX12_read (kI SH P) 48 [.ref 68, .int v1, .int v2, .int v3, .int v4, .int v5, .int v6, .int v7, .retAddr 0] [] (SH, I, J) (0, 0)
  refine V_iload dX12_read_48 rfl ?_
  refine V_iconst (v := (3 : Int32)) dX12_read_50 rfl ?_
  refine V_iload dX12_read_51 rfl ?_
  refine V_imul dX12_read_53 ?_
  refine V_icmp_ge dX12_read_54 (fun c1 => ?_) (fun c1 => ?_)
  · have k := k.1 c1
    refine V_iconst (v := (0 : Int32)) dX12_read_229 rfl ?_
    refine U_istore (L2 := [.ref 68, .int v1, .int v2, .int v3, .int v4, .int v5, .int v6, .int (0 : Int32), .retAddr 0]) dX12_read_230 (by decide) rfl ?_
    exact V_wk (wk_eq (wk_eq (wk_j (wk_eq (wk_j (wk_eq (wk_eq (wk_eq (wk_j (wk_nil)))))))))) k
  · have k := k.2 c1
    refine V_iload dX12_read_57 rfl ?_
    refine V_if_ne dX12_read_59 (fun c2 => ?_) (fun c2 => ?_)
    · have k := k.1 c2
      refine V_iconst (v := (0 : Int32)) dX12_read_229 rfl ?_
      refine U_istore (L2 := [.ref 68, .int v1, .int v2, .int v3, .int v4, .int v5, .int v6, .int (0 : Int32), .retAddr 0]) dX12_read_230 (by decide) rfl ?_
      exact V_wk (wk_eq (wk_eq (wk_j (wk_eq (wk_j (wk_eq (wk_eq (wk_eq (wk_j (wk_nil)))))))))) k
    · have k := k.2 c2
      refine V_aload_n dX12_read_62 rfl ?_
      refine U_getR dX12_read_63 fl_X12_78 s_68 rfl ?_
      refine V_iload_n dX12_read_66 rfl ?_
      obtain ⟨hb3, k⟩ := k
      refine U_iald dX12_read_67 s_91 hb3 ?_
      refine V_bipush (v := (-4 : Int32)) dX12_read_68 rfl ?_
      obtain ⟨hc2008, hc2009, k⟩ := k
      have key4 : ∀ (y2007 : Int32), y2007 = (if ¬ (I 91 v1.toNatClampNeg) = (-4 : Int32) then (if (I 91 v1.toNatClampNeg) = v2 then (if ((0 : Int64) ≤ (v3.toInt64 + v7.toInt64) ∧ (v3.toInt64 + v7.toInt64) ≤ (((I 92 v1.toNatClampNeg) - (1 : Int32)).toInt64)) then (0 : Int32) else (2 : Int32)) else (3 : Int32)) else (1 : Int32)) → V E mX12_read (kI SH P) 118 [.ref 68, .int v1, .int v2, .int v3, .int v4, .int v5, .int v6, .int v7, .retAddr 0] [.int y2007] (SH, I, J) (0, 0) := by
        intro y2007 ey2007
        subst ey2007
        refine U_istore (L2 := [.ref 68, .int v1, .int v2, .int v3, .int v4, .int (if ¬ (I 91 v1.toNatClampNeg) = (-4 : Int32) then (if (I 91 v1.toNatClampNeg) = v2 then (if ((0 : Int64) ≤ (v3.toInt64 + v7.toInt64) ∧ (v3.toInt64 + v7.toInt64) ≤ (((I 92 v1.toNatClampNeg) - (1 : Int32)).toInt64)) then (0 : Int32) else (2 : Int32)) else (3 : Int32)) else (1 : Int32)), .int v6, .int v7, .retAddr 0]) dX12_read_118 (by decide) rfl ?_
        refine V_iload dX12_read_120 rfl ?_
        refine V_if_ne dX12_read_122 (fun c2010 => ?_) (fun c2010 => ?_)
        · have k := k.1 c2010
          refine U_iinc (v := v7 + (1 : Int32)) (L2 := [.ref 68, .int v1, .int v2, .int v3, .int v4, .int (if ¬ (I 91 v1.toNatClampNeg) = (-4 : Int32) then (if (I 91 v1.toNatClampNeg) = v2 then (if ((0 : Int64) ≤ (v3.toInt64 + v7.toInt64) ∧ (v3.toInt64 + v7.toInt64) ≤ (((I 92 v1.toNatClampNeg) - (1 : Int32)).toInt64)) then (0 : Int32) else (2 : Int32)) else (3 : Int32)) else (1 : Int32)), .int v6, .int (v7 + (1 : Int32)), .retAddr 0]) dX12_read_223 (by decide) rfl rfl rfl ?_
          refine V_goto dX12_read_226 ?_
          exact k
        · have k := k.2 c2010
          refine V_iload dX12_read_125 rfl ?_
          refine V_iconst (v := (3 : Int32)) dX12_read_127 rfl ?_
          refine V_irem dX12_read_128 (by decide) ?_
          refine V_iconst (v := (2 : Int32)) dX12_read_129 rfl ?_
          refine V_icmp_ne dX12_read_130 (fun c2011 => ?_) (fun c2011 => ?_)
          · have k := k.1 c2011
            refine U_iinc (v := v7 + (1 : Int32)) (L2 := [.ref 68, .int v1, .int v2, .int v3, .int v4, .int (if ¬ (I 91 v1.toNatClampNeg) = (-4 : Int32) then (if (I 91 v1.toNatClampNeg) = v2 then (if ((0 : Int64) ≤ (v3.toInt64 + v7.toInt64) ∧ (v3.toInt64 + v7.toInt64) ≤ (((I 92 v1.toNatClampNeg) - (1 : Int32)).toInt64)) then (0 : Int32) else (2 : Int32)) else (3 : Int32)) else (1 : Int32)), .int v6, .int (v7 + (1 : Int32)), .retAddr 0]) dX12_read_223 (by decide) rfl rfl rfl ?_
            refine V_goto dX12_read_226 ?_
            exact k
          · have k := k.2 c2011
            refine V_bipush (v := (40 : Int32)) dX12_read_133 rfl ?_
            refine V_iload_n dX12_read_135 rfl ?_
            refine V_imul dX12_read_136 ?_
            refine V_iload_n dX12_read_137 rfl ?_
            refine V_iadd dX12_read_138 ?_
            refine V_iload dX12_read_139 rfl ?_
            refine V_iadd dX12_read_141 ?_
            refine V_iconst (v := (2 : Int32)) dX12_read_142 rfl ?_
            refine V_isub dX12_read_143 ?_
            refine U_istore (L2 := [.ref 68, .int v1, .int v2, .int v3, .int v4, .int (if ¬ (I 91 v1.toNatClampNeg) = (-4 : Int32) then (if (I 91 v1.toNatClampNeg) = v2 then (if ((0 : Int64) ≤ (v3.toInt64 + v7.toInt64) ∧ (v3.toInt64 + v7.toInt64) ≤ (((I 92 v1.toNatClampNeg) - (1 : Int32)).toInt64)) then (0 : Int32) else (2 : Int32)) else (3 : Int32)) else (1 : Int32)), .int v6, .int v7, .int (((((40 : Int32) * v1) + v3) + v7) - (2 : Int32))]) dX12_read_144 (by decide) rfl ?_
            refine V_aload_n dX12_read_146 rfl ?_
            refine V_aload_n dX12_read_147 rfl ?_
            refine U_getR dX12_read_148 fl_X12_84 s_68 rfl ?_
            refine V_iload dX12_read_151 rfl ?_
            obtain ⟨hb2012, k⟩ := k
            refine U_iald dX12_read_153 s_93 hb2012 ?_
            refine U_callV1 [.int (I 93 (((((40 : Int32) * v1) + v3) + v7) - (2 : Int32)).toNatClampNeg)] dX12_read_154 ov_X12_167 s_68 rfl ⟨rfl, rfl, rfl⟩ rfl rfl rfl (tX12_isPlace ?_)
            refine U_ifb_eq dX12_read_157 (fun c2013 => ?_) (fun c2013 => ?_)
            · have k := k.1 c2013
              refine V_bipush (v := (-20 : Int32)) dX12_read_195 rfl ?_
              refine V_iload dX12_read_197 rfl ?_
              refine V_isub dX12_read_199 ?_
              exact V_iret dX12_read_200 ⟨_, rfl, rfl⟩ rfl rfl ⟨_, _, _, rfl, rfl, k⟩
            · have k := k.2 c2013
              refine V_aload_n dX12_read_160 rfl ?_
              refine U_getR dX12_read_161 fl_X12_84 s_68 rfl ?_
              refine V_iload dX12_read_164 rfl ?_
              refine V_iconst (v := (1 : Int32)) dX12_read_166 rfl ?_
              refine V_iadd dX12_read_167 ?_
              obtain ⟨hb2014, k⟩ := k
              refine U_iald dX12_read_168 s_93 hb2014 ?_
              refine U_callS1 [.int (I 93 ((((((40 : Int32) * v1) + v3) + v7) - (2 : Int32)) + (1 : Int32)).toNatClampNeg)] dX12_read_169 os_X12_179 ⟨rfl, rfl, rfl⟩ rfl rfl rfl (tX12_isMinute ?_)
              refine U_ifb_eq dX12_read_172 (fun c2015 => ?_) (fun c2015 => ?_)
              · have k := k.1 c2015
                refine V_bipush (v := (-20 : Int32)) dX12_read_195 rfl ?_
                refine V_iload dX12_read_197 rfl ?_
                refine V_isub dX12_read_199 ?_
                exact V_iret dX12_read_200 ⟨_, rfl, rfl⟩ rfl rfl ⟨_, _, _, rfl, rfl, k⟩
              · have k := k.2 c2015
                refine V_aload_n dX12_read_175 rfl ?_
                refine U_getR dX12_read_176 fl_X12_84 s_68 rfl ?_
                refine V_iload dX12_read_179 rfl ?_
                refine V_iconst (v := (2 : Int32)) dX12_read_181 rfl ?_
                refine V_iadd dX12_read_182 ?_
                obtain ⟨hb2016, k⟩ := k
                refine U_iald dX12_read_183 s_93 hb2016 ?_
                refine V_i2l dX12_read_184 ?_
                refine V_lconst (v := (1 : Int64)) dX12_read_185 rfl ?_
                refine V_ldc2_w (v := (999 : Int64)) dX12_read_186 (gt_6 19 rfl rfl) ?_
                refine U_callS1 [.long ((I 93 ((((((40 : Int32) * v1) + v3) + v7) - (2 : Int32)) + (2 : Int32)).toNatClampNeg).toInt64), .long (1 : Int64), .long (999 : Int64)] dX12_read_189 os_X12_91 ⟨rfl, rfl, rfl⟩ rfl rfl rfl (tX12_in32 (v := (I 93 ((((((40 : Int32) * v1) + v3) + v7) - (2 : Int32)) + (2 : Int32)).toNatClampNeg)) (lo := (1 : Int32)) (hi := (999 : Int32)) rfl (by decide) (by decide) ?_)
                refine U_ifb_ne dX12_read_192 (fun c2017 => ?_) (fun c2017 => ?_)
                · have k := k.1 c2017
                  refine V_aload_n dX12_read_201 rfl ?_
                  refine U_getR dX12_read_202 fl_X12_49 s_68 rfl ?_
                  refine V_sipush (v := (280 : Int32)) dX12_read_205 rfl ?_
                  refine U_ialdx (x := I 82 280) dX12_read_208 s_82 (by unfold vp_in; decide) rfl ?_
                  refine V_iload dX12_read_209 rfl ?_
                  refine V_iadd dX12_read_211 ?_
                  refine V_bipush (v := (24 : Int32)) dX12_read_212 rfl ?_
                  refine V_icmp_ne dX12_read_214 (fun c2018 => ?_) (fun c2018 => ?_)
                  · have k := k.1 c2018
                    refine U_iinc (v := v6 + (1 : Int32)) (L2 := [.ref 68, .int v1, .int v2, .int v3, .int v4, .int (if ¬ (I 91 v1.toNatClampNeg) = (-4 : Int32) then (if (I 91 v1.toNatClampNeg) = v2 then (if ((0 : Int64) ≤ (v3.toInt64 + v7.toInt64) ∧ (v3.toInt64 + v7.toInt64) ≤ (((I 92 v1.toNatClampNeg) - (1 : Int32)).toInt64)) then (0 : Int32) else (2 : Int32)) else (3 : Int32)) else (1 : Int32)), .int (v6 + (1 : Int32)), .int v7, .int (((((40 : Int32) * v1) + v3) + v7) - (2 : Int32))]) dX12_read_220 (by decide) rfl rfl rfl ?_
                    refine U_iinc (v := v7 + (1 : Int32)) (L2 := [.ref 68, .int v1, .int v2, .int v3, .int v4, .int (if ¬ (I 91 v1.toNatClampNeg) = (-4 : Int32) then (if (I 91 v1.toNatClampNeg) = v2 then (if ((0 : Int64) ≤ (v3.toInt64 + v7.toInt64) ∧ (v3.toInt64 + v7.toInt64) ≤ (((I 92 v1.toNatClampNeg) - (1 : Int32)).toInt64)) then (0 : Int32) else (2 : Int32)) else (3 : Int32)) else (1 : Int32)), .int (v6 + (1 : Int32)), .int (v7 + (1 : Int32)), .int (((((40 : Int32) * v1) + v3) + v7) - (2 : Int32))]) dX12_read_223 (by decide) rfl rfl rfl ?_
                    refine V_goto dX12_read_226 ?_
                    exact V_wk (wk_eq (wk_eq (wk_eq (wk_eq (wk_eq (wk_eq (wk_eq (wk_eq (wk_j (wk_nil)))))))))) k
                  · have k := k.2 c2018
                    refine V_bipush (v := (-3 : Int32)) dX12_read_217 rfl ?_
                    exact V_iret dX12_read_219 ⟨_, rfl, rfl⟩ rfl rfl ⟨_, _, _, rfl, rfl, k⟩
                · have k := k.2 c2017
                  refine V_bipush (v := (-20 : Int32)) dX12_read_195 rfl ?_
                  refine V_iload dX12_read_197 rfl ?_
                  refine V_isub dX12_read_199 ?_
                  exact V_iret dX12_read_200 ⟨_, rfl, rfl⟩ rfl rfl ⟨_, _, _, rfl, rfl, k⟩
      refine V_icmp_ne dX12_read_70 (fun c2019 => ?_) (fun c2019 => ?_)
      · refine V_aload_n dX12_read_77 rfl ?_
        refine U_getR dX12_read_78 fl_X12_78 s_68 rfl ?_
        refine V_iload_n dX12_read_81 rfl ?_
        have hb1005 := hc2008 c2019
        refine U_iald dX12_read_82 s_91 hb1005 ?_
        refine V_iload_n dX12_read_83 rfl ?_
        refine V_icmp_eq dX12_read_84 (fun c2020 => ?_) (fun c2020 => ?_)
        · refine V_iload_n dX12_read_91 rfl ?_
          refine V_i2l dX12_read_92 ?_
          refine V_iload dX12_read_93 rfl ?_
          refine V_i2l dX12_read_95 ?_
          refine V_ladd dX12_read_96 ?_
          refine V_lconst (v := (0 : Int64)) dX12_read_97 rfl ?_
          refine V_aload_n dX12_read_98 rfl ?_
          refine U_getR dX12_read_99 fl_X12_81 s_68 rfl ?_
          refine V_iload_n dX12_read_102 rfl ?_
          have hb1006 := hc2009 c2019 c2020
          refine U_iald dX12_read_103 s_92 hb1006 ?_
          refine V_iconst (v := (1 : Int32)) dX12_read_104 rfl ?_
          refine V_isub dX12_read_105 ?_
          refine V_i2l dX12_read_106 ?_
          refine U_callS1 [.long (v3.toInt64 + v7.toInt64), .long (0 : Int64), .long (((I 92 v1.toNatClampNeg) - (1 : Int32)).toInt64)] dX12_read_107 os_X12_91 ⟨rfl, rfl, rfl⟩ rfl rfl rfl (tX12_in ?_)
          refine U_ifb_ne dX12_read_110 (fun c2021 => ?_) (fun c2021 => ?_)
          · refine V_iconst (v := (0 : Int32)) dX12_read_117 rfl ?_
            exact key4 _ (by rw [if_pos c2019, if_pos c2020, if_pos c2021])
          · refine V_iconst (v := (2 : Int32)) dX12_read_113 rfl ?_
            refine V_goto dX12_read_114 ?_
            exact key4 _ (by rw [if_pos c2019, if_pos c2020, if_neg c2021])
        · refine V_iconst (v := (3 : Int32)) dX12_read_87 rfl ?_
          refine V_goto dX12_read_88 ?_
          exact key4 _ (by rw [if_pos c2019, if_neg c2020])
      · refine V_iconst (v := (1 : Int32)) dX12_read_73 rfl ?_
        refine V_goto dX12_read_74 ?_
        exact key4 _ (by rw [if_neg (not_not_intro c2019)])
set_option maxHeartbeats 4000000 in
set_option maxRecDepth 20000 in
theorem wX12_read_232 {E : aE} {P : Int32 → hI_ → hJ_ → Prop} {I : hI_} {J : hJ_} {v1 : Int32} {v3 : Int32} {v5 : Int32} {v6 : Int32} {v7 : Int32} (k : ((v6 ≤ v7 → P v6 (upI I 68 37 v5) J) ∧ (¬ (v6 ≤ v7) → (vp_in ((((40 : Int32) * v1) + v3) + ((3 : Int32) * v7)) 160) ∧ (vp_in (((((40 : Int32) * v1) + v3) + ((3 : Int32) * v7)) + (1 : Int32)) 160) ∧ (vp_in (((((40 : Int32) * v1) + v3) + ((3 : Int32) * v7)) + (2 : Int32)) 160) ∧ CallV E mX12_addStep [.ref 68, .int (I 93 ((((40 : Int32) * v1) + v3) + ((3 : Int32) * v7)).toNatClampNeg), .int (I 93 (((((40 : Int32) * v1) + v3) + ((3 : Int32) * v7)) + (1 : Int32)).toNatClampNeg), .int (I 93 (((((40 : Int32) * v1) + v3) + ((3 : Int32) * v7)) + (2 : Int32)).toNatClampNeg)] SH I J (fun I6 J7 => HX12_read_232 E P v1 v3 v5 v6 (v7 + (1 : Int32)) I6 J7)))) : HX12_read_232 E P v1 v3 v5 v6 v7 I J := by
  show V E mX12_read (kI SH P) 232 [.ref 68, .int v1, .retAddr 0, .int v3, .retAddr 0, .int v5, .int v6, .int v7, .retAddr 0] [] (SH, I, J) (0, 0)
  refine V_iload dX12_read_232 rfl ?_
  refine V_iload dX12_read_234 rfl ?_
  refine V_icmp_ge dX12_read_236 (fun c1 => ?_) (fun c1 => ?_)
  · have k := k.1 c1
    refine V_aload_n dX12_read_287 rfl ?_
    refine V_iload dX12_read_288 rfl ?_
    refine U_putI dX12_read_290 fp_X12_305 s_68 rfl ?_
    refine V_iload dX12_read_293 rfl ?_
    exact V_iret dX12_read_295 ⟨_, rfl, rfl⟩ rfl rfl ⟨_, _, _, rfl, rfl, k⟩
  · have k := k.2 c1
    refine V_bipush (v := (40 : Int32)) dX12_read_239 rfl ?_
    refine V_iload_n dX12_read_241 rfl ?_
    refine V_imul dX12_read_242 ?_
    refine V_iload_n dX12_read_243 rfl ?_
    refine V_iadd dX12_read_244 ?_
    refine V_iconst (v := (3 : Int32)) dX12_read_245 rfl ?_
    refine V_iload dX12_read_246 rfl ?_
    refine V_imul dX12_read_248 ?_
    refine V_iadd dX12_read_249 ?_
    refine U_istore (L2 := [.ref 68, .int v1, .retAddr 0, .int v3, .retAddr 0, .int v5, .int v6, .int v7, .int ((((40 : Int32) * v1) + v3) + ((3 : Int32) * v7))]) dX12_read_250 (by decide) rfl ?_
    refine V_aload_n dX12_read_252 rfl ?_
    refine V_aload_n dX12_read_253 rfl ?_
    refine U_getR dX12_read_254 fl_X12_84 s_68 rfl ?_
    refine V_iload dX12_read_257 rfl ?_
    obtain ⟨hb2, k⟩ := k
    refine U_iald dX12_read_259 s_93 hb2 ?_
    refine V_aload_n dX12_read_260 rfl ?_
    refine U_getR dX12_read_261 fl_X12_84 s_68 rfl ?_
    refine V_iload dX12_read_264 rfl ?_
    refine V_iconst (v := (1 : Int32)) dX12_read_266 rfl ?_
    refine V_iadd dX12_read_267 ?_
    obtain ⟨hb3, k⟩ := k
    refine U_iald dX12_read_268 s_93 hb3 ?_
    refine V_aload_n dX12_read_269 rfl ?_
    refine U_getR dX12_read_270 fl_X12_84 s_68 rfl ?_
    refine V_iload dX12_read_273 rfl ?_
    refine V_iconst (v := (2 : Int32)) dX12_read_275 rfl ?_
    refine V_iadd dX12_read_276 ?_
    obtain ⟨hb4, k⟩ := k
    refine U_iald dX12_read_277 s_93 hb4 ?_
    refine U_callV0 [.int (I 93 ((((40 : Int32) * v1) + v3) + ((3 : Int32) * v7)).toNatClampNeg), .int (I 93 (((((40 : Int32) * v1) + v3) + ((3 : Int32) * v7)) + (1 : Int32)).toNatClampNeg), .int (I 93 (((((40 : Int32) * v1) + v3) + ((3 : Int32) * v7)) + (2 : Int32)).toNatClampNeg)] dX12_read_278 ov_X12_196 s_68 rfl ⟨rfl, rfl, rfl⟩ rfl rfl rfl (CallV_mono k (fun I6 J7 k => ?_))
    refine U_iinc (v := v7 + (1 : Int32)) (L2 := [.ref 68, .int v1, .retAddr 0, .int v3, .retAddr 0, .int v5, .int v6, .int (v7 + (1 : Int32)), .int ((((40 : Int32) * v1) + v3) + ((3 : Int32) * v7))]) dX12_read_281 (by decide) rfl rfl rfl ?_
    refine V_goto dX12_read_284 ?_
    exact V_wk (wk_eq (wk_eq (wk_j (wk_eq (wk_j (wk_eq (wk_eq (wk_eq (wk_j (wk_nil)))))))))) k
theorem in64 {f : Int32} {k len : Nat} (hk : k < 1000) (hl : len < 1000) : ((0 : Int64) ≤ f.toInt64 + (nI k).toInt64 ∧ f.toInt64 + (nI k).toInt64 ≤ (nI len - 1).toInt64) ↔ (0 ≤ f.toInt + k ∧ f.toInt + k < len) := by
  have h1 := Int32.toInt_lt f
  have h2 := Int32.le_toInt f
  have e1 : (f.toInt64 + (nI k).toInt64).toInt = f.toInt + k := by
    rw [Int64.toInt_add, Int32.toInt_toInt64, Int32.toInt_toInt64, nI_toInt (by omega)]
    exact Int.bmod_eq_of_le (by omega) (by omega)
  have e2 : (nI len - 1).toInt = (len : Int) - 1 := by
    cases len with
    | zero => rfl
    | succ n => rw [nI_pred, nI_toInt (by omega)]; omega
  rw [Int64.le_iff_toInt_le, Int64.le_iff_toInt_le, e1, Int32.toInt_toInt64, e2]
  have e0 : (0 : Int64).toInt = 0 := rfl
  rw [e0]
  omega
theorem mod3 : ∀ k, k < 40 → ((nI k - nI k / 3 * 3 = 2) ↔ k % 3 = 2) := by decide +kernel
theorem nI_s2 (n : Nat) : nI (n + 2) - 2 = nI n := by
  have : nI (n + 2) = nI n + 2 := (nI_add n 2).symm
  rw [this, Int32.add_sub_cancel]
def scl (I : hI_) (x f i j : Nat) : Int32 := I 93 (40 * x + f + 3 * i + j)
def goodB (I : hI_) (x f i : Nat) : Bool := decide ((0 ≤ scl I x f i 0 ∧ scl I x f i 0 ≤ I 73 0 - 1) ∧ (0 ≤ scl I x f i 1 ∧ scl I x f i 1 ≤ 999) ∧ (1 ≤ scl I x f i 2 ∧ scl I x f i 2 ≤ 999))
def rdR (I : hI_) (x f n0 : Nat) : Nat → Nat → Option Int32
  | 0, _ => none
  | m + 1, i => if goodB I x f i = true then (if n0 + i = 24 then some (-3) else rdR I x f n0 m (i + 1)) else some (-20 - nI i)
theorem rdR_s {I : hI_} {x f n0 m i : Nat} : rdR I x f n0 (m + 1) i = if goodB I x f i = true then (if n0 + i = 24 then some (-3) else rdR I x f n0 m (i + 1)) else some (-20 - nI i) := rfl
theorem readX_loop {E : aE} {P : Int32 → hI_ → hJ_ → Prop} {I0 : hI_} {J : hJ_} {x f W len : Nat} {fo : Int32} (h : Rel I0) (hx : x < 4) (hl : I0 92 x = nI len) (hlen : len ≤ 40) (hfW : f + 3 * W ≤ len) (k1 : ∀ v, rdR I0 x f (nS I0) W 0 = some v → ∀ I2, (∀ a, a ≠ 22 → a ≠ 23 → I2 a = I0 a) → I2 22 = I0 22 → (∀ j, j < 3 * nS I0 → I2 23 j = I0 23 j) → P v I2 J) (k2 : rdR I0 x f (nS I0) W 0 = none → nS I0 + W ≤ 24 → (∀ i, i < W → goodB I0 x f i = true) → ∀ I2, apX I0 I2 (nS I0) W (scl I0 x f) → P (nI W) (upI I2 0 13 fo) J) : ∀ (m i : Nat) (I : hI_), i + m = W → apX I0 I (nS I0) i (scl I0 x f) → nS I0 + i ≤ 24 → (∀ u, u < i → goodB I0 x f u = true) → rdR I0 x f (nS I0) W 0 = rdR I0 x f (nS I0) m i → HX11_read_99 E P (nI x) (nI f) fo (nI W) (nI (nS I0)) (nI i) I J
  | 0, i, I, hi, ha, hn, hg, hr => by
    have e : i = W := by omega
    subst e
    exact wX11_read_99 ⟨fun _ => k2 hr hn hg I ha, fun z => absurd (nI_le (by omega) (by omega)) z⟩
  | m + 1, i, I, hi, ha, hn, hg, hr => by
    obtain ⟨q1, q2, q3⟩ := sh_ref (k := x) hx
    obtain ⟨s1, s2, s3, s4⟩ := Rel_shk h hx
    have hS := Rel_S h
    have vx : vp_in (nI x) 4 := vp_in_nI (by omega) (by omega)
    have ha0 := ha
    obtain ⟨x1, x2, x3, x4, x5⟩ := ha
    have o60 : I (60 + 2 * x) = I0 (60 + 2 * x) := x1 _ (by omega) (by omega)
    have o61 : I (61 + 2 * x) = I0 (61 + 2 * x) := x1 _ (by omega) (by omega)
    have l40 : I (60 + 2 * x) 2 ≤ 40 := by rw [o60, s2, hl]; exact nI_le (b := 40) (by omega) (by omega)
    have e3 : nI f + nI i * 3 = nI (f + 3 * i) := by rw [show (3 : Int32) = nI 3 from rfl, pk_mul, nI_add, Nat.mul_comm i 3]
    have e31 : nI (f + 3 * i) + 1 = nI (f + 3 * i + 1) := nI_1 _
    have e32 : nI (f + 3 * i) + 2 = nI (f + 3 * i + 2) := nI_add _ 2
    have at_ : ∀ j, j < 3 → shAt I (60 + 2 * x) (61 + 2 * x) (nI (f + 3 * i + j)) = scl I0 x f i j := fun j hj => by
      unfold shAt scl
      rw [o60, s2, hl, if_pos ⟨nI_pos' (by omega), nI_lt (by omega) (by omega)⟩, nI_clamp (by omega), o61, s4 _ (by omega)]
      congr 1
      omega
    have a0 := at_ 0 (by omega)
    rw [Nat.add_zero] at a0
    refine wX11_read_99 ⟨fun z => absurd z (nI_ge (by omega) (by omega)), fun _ => ⟨vx, 60 + 2 * x, 61 + 2 * x, q1, q2, q3, l40, vx, 60 + 2 * x, 61 + 2 * x, q1, q2, q3, l40, vx, 60 + 2 * x, 61 + 2 * x, q1, q2, q3, l40, ?_⟩⟩
    rw [e3, e31, e32, a0, at_ 1 (by omega), at_ 2 (by omega)]
    have r22 := (Rel_rows h).1
    have rk : rok I 22 3 24 := ⟨(x3 1 (by omega)).trans r22.1, (x3 0 (by omega)).trans r22.2.1, by rw [x2]; exact nI_pos' (by omega), by rw [x2]; exact nI_le (b := 24) (by omega) (by omega)⟩
    have e36 : I 3 6 = I0 73 0 := by rw [x1 3 (by omega) (by omega)]; exact Rel_pl h
    have roll : ∀ v, rdR I0 x f (nS I0) W 0 = some v → P v (upI I 22 3 (nI (nS I0))) J := fun v hv => by
      refine k1 v hv _ (fun a q1 q2 => ?_) ?_ (fun j hj => ?_)
      · rw [← x1 a q1 q2]; funext j; rw [upI_at, if_neg (fun z => q1 z.1)]
      · funext j
        rw [upI_at]
        by_cases e : j = 3
        · rw [if_pos ⟨rfl, e⟩, e]; exact hS.1.symm
        · rw [if_neg (fun z => e z.2)]; exact x3 j e
      · rw [upI_at, if_neg (by omega)]; exact x5 j hj
    rw [rdR_s (m := m)] at hr
    refine tX11_step (n := nS I0 + i) rk x2 hn (fun hb => ?_) (fun hb hn2 => ?_) (fun hb hn2 => ?_)
    · rw [e36] at hb
      have hgf : ¬ goodB I0 x f i = true := fun z => hb (of_decide_eq_true z)
      rw [if_neg hgf] at hr
      refine ⟨fun z => absurd z (by decide), fun _ => ?_⟩
      rw [if_pos (by decide)]
      exact roll _ hr
    · rw [e36] at hb
      have hgt : goodB I0 x f i = true := decide_eq_true hb
      rw [if_pos hgt, if_pos hn2] at hr
      refine ⟨fun z => absurd z (by decide), fun _ => ?_⟩
      rw [if_neg (by decide)]
      exact roll _ hr
    · rw [e36] at hb
      have hgt : goodB I0 x f i = true := decide_eq_true hb
      rw [if_pos hgt, if_neg (by omega)] at hr
      refine ⟨fun _ => ?_, fun z => absurd (nI_pos' (by omega)) z⟩
      rw [nI_1]
      refine readX_loop h hx hl hlen hfW k1 k2 m (i + 1) _ (by omega) (apX_s ha0) (by omega) (fun u hu => ?_) hr
      by_cases e : u = i
      · rw [e]; exact hgt
      · exact hg u (by omega)
theorem readM_end {E : aE} {P : Int32 → hI_ → hJ_ → Prop} {I : hI_} {J : hJ_} {x n k : Nat} {ln f by_ c : Int32} (hn : n ≤ 13) (hk : 3 * n ≤ k ∨ ¬ by_ = 0) (hk2 : k < 100) (q : HX12_read_232 E P (nI x) f by_ c 0 I J) : HX12_read_48 E P (nI x) ln f (nI n) by_ c (nI k) I J := by
  have e3 : (3 : Int32) * nI n = nI (3 * n) := by rw [show (3 : Int32) = nI 3 from rfl, pk_mul]
  refine wX12_read_48 ?_
  rw [e3]
  refine ⟨fun _ => q, fun z => ⟨fun _ => q, fun z2 => ?_⟩⟩
  rcases hk with hk | hk
  · exact absurd (nI_le (by omega) (by omega)) z
  · exact absurd z2 hk
theorem readM_out {E : aE} {P : Int32 → hI_ → hJ_ → Prop} {I : hI_} {J : hJ_} {x n k len : Nat} {ln f c : Int32} (hx : x < 4) (hn : n ≤ 13) (hk : k < 3 * n) (hl : I 92 x = nI len) (hlen : len ≤ 40) (b1 : I 91 x = ln) (b2 : ¬ ln = -4) (hin : ¬ (0 ≤ f.toInt + k ∧ f.toInt + k < len)) (q : HX12_read_232 E P (nI x) f 2 c 0 I J) : HX12_read_48 E P (nI x) ln f (nI n) 0 c (nI k) I J := by
  have e3 : (3 : Int32) * nI n = nI (3 * n) := by rw [show (3 : Int32) = nI 3 from rfl, pk_mul]
  have vx : vp_in (nI x) 4 := vp_in_nI (by omega) (by omega)
  have cx : (nI x).toNatClampNeg = x := nI_clamp (by omega)
  refine wX12_read_48 ?_
  rw [e3, cx, b1, hl, if_pos b2, if_pos rfl, if_neg (fun z => hin ((in64 (by omega) (by omega)).mp z)), nI_1]
  exact ⟨fun z => absurd z (nI_ge (by omega) (by omega)), fun _ => ⟨fun z => absurd rfl z, fun _ => ⟨vx, fun _ => vx, fun _ _ => vx, fun _ => readM_end hn (Or.inr (by decide)) (by omega) q, fun z => absurd z (by decide)⟩⟩⟩
theorem readM_wr {E : aE} {P : Int32 → hI_ → hJ_ → Prop} {I : hI_} {J : hJ_} {x n : Nat} {ln f c : Int32} (hx : x < 4) (hn : n ≤ 13) (hn0 : 0 < n) (b1 : ¬ I 91 x = ln ∨ I 91 x = -4) (q : HX12_read_232 E P (nI x) f (if I 91 x = -4 then 1 else 3) c 0 I J) : HX12_read_48 E P (nI x) ln f (nI n) 0 c 0 I J := by
  have e3 : (3 : Int32) * nI n = nI (3 * n) := by rw [show (3 : Int32) = nI 3 from rfl, pk_mul]
  have vx : vp_in (nI x) 4 := vp_in_nI (by omega) (by omega)
  have cx : (nI x).toNatClampNeg = x := nI_clamp (by omega)
  refine wX12_read_48 ?_
  rw [e3, cx]
  have key : ∀ v : Int32, ¬ v = 0 → v = (if I 91 x = -4 then 1 else 3) → HX12_read_48 E P (nI x) ln f (nI n) v c (0 + 1) I J := fun v h0 hv => by
    have z1 : (0 : Int32) + 1 = nI 1 := rfl
    rw [z1]
    exact readM_end hn (Or.inr h0) (by omega) (by rw [hv]; exact q)
  by_cases e4 : I 91 x = -4
  · rw [if_neg (fun z => z e4)]
    exact ⟨fun z => absurd z (nI_ge (a := 0) (by omega) (by omega)), fun _ => ⟨fun z => absurd rfl z, fun _ => ⟨vx, fun _ => vx, fun _ _ => vx, fun _ => key _ (by decide) (by rw [if_pos e4]), fun z => absurd z (by decide)⟩⟩⟩
  · rcases b1 with b1 | b1
    · rw [if_pos e4, if_neg b1]
      exact ⟨fun z => absurd z (nI_ge (a := 0) (by omega) (by omega)), fun _ => ⟨fun z => absurd rfl z, fun _ => ⟨vx, fun _ => vx, fun _ _ => vx, fun _ => key _ (by decide) (by rw [if_neg e4]), fun z => absurd z (by decide)⟩⟩⟩
    · exact absurd b1 e4
theorem readM_in {E : aE} {P : Int32 → hI_ → hJ_ → Prop} {I : hI_} {J : hJ_} {x n k len : Nat} {ln f c : Int32} (hx : x < 4) (hn : n ≤ 13) (hk : k < 3 * n) (hl : I 92 x = nI len) (hlen : len ≤ 40) (b1 : I 91 x = ln) (b2 : ¬ ln = -4) (hin : (0 ≤ f.toInt + k ∧ f.toInt + k < len)) (hm : ¬ k % 3 = 2) (q : HX12_read_48 E P (nI x) ln f (nI n) 0 c (nI (k + 1)) I J) : HX12_read_48 E P (nI x) ln f (nI n) 0 c (nI k) I J := by
  have e3 : (3 : Int32) * nI n = nI (3 * n) := by rw [show (3 : Int32) = nI 3 from rfl, pk_mul]
  have vx : vp_in (nI x) 4 := vp_in_nI (by omega) (by omega)
  have cx : (nI x).toNatClampNeg = x := nI_clamp (by omega)
  refine wX12_read_48 ?_
  rw [e3, cx, b1, hl, if_pos b2, if_pos rfl, if_pos ((in64 (by omega) (by omega)).mpr hin), nI_1]
  exact ⟨fun z => absurd z (nI_ge (by omega) (by omega)), fun _ => ⟨fun z => absurd rfl z, fun _ => ⟨vx, fun _ => vx, fun _ _ => vx, fun z => absurd rfl z, fun _ => ⟨fun _ => q, fun z => absurd ((mod3 k (by omega)).mp z) hm⟩⟩⟩⟩
theorem readM_loop {E : aE} {P : Int32 → hI_ → hJ_ → Prop} {I : hI_} {J : hJ_} {x f W n len n0 : Nat} {ln : Int32} (hx : x < 4) (hn : n ≤ 13) (hl : I 92 x = nI len) (hlen : len ≤ 40) (hfl : f < len) (hW : W = min n ((len - f) / 3)) (b1 : I 91 x = ln) (b2 : ¬ ln = -4) (h0 : I 82 280 = nI n0) (hn0 : n0 ≤ 24) (k1 : ∀ v, rdR I x f n0 W 0 = some v → P v I J) (k2 : rdR I x f n0 W 0 = none → HX12_read_232 E P (nI x) (nI f) (if n ≤ W then 0 else 2) (nI W) 0 I J) : ∀ (m i : Nat), i + m = W → rdR I x f n0 W 0 = rdR I x f n0 m i → n0 + i ≤ 24 → HX12_read_48 E P (nI x) ln (nI f) (nI n) 0 (nI i) (nI (3 * i)) I J
  | 0, i, hi, hr, h24 => by
    have e : i = W := by omega
    subst e
    have k2 := k2 hr
    have ft : (nI f).toInt = f := nI_toInt (by omega)
    by_cases hc : n ≤ i
    · rw [if_pos hc] at k2
      exact readM_end hn (Or.inl (by omega)) (by omega) k2
    · rw [if_neg hc] at k2
      have h3 : len - f - 3 * i < 3 := by omega
      rcases (show f + 3 * i = len ∨ f + 3 * i + 1 = len ∨ f + 3 * i + 2 = len by omega) with z | z | z
      · exact readM_out hx hn (by omega) hl hlen b1 b2 (by rw [ft]; omega) k2
      · refine readM_in hx hn (by omega) hl hlen b1 b2 (by rw [ft]; omega) (by omega) ?_
        exact readM_out hx hn (by omega) hl hlen b1 b2 (by rw [ft]; omega) k2
      · refine readM_in hx hn (by omega) hl hlen b1 b2 (by rw [ft]; omega) (by omega) ?_
        refine readM_in hx hn (by omega) hl hlen b1 b2 (by rw [ft]; omega) (by omega) ?_
        exact readM_out hx hn (by omega) hl hlen b1 b2 (by rw [ft]; omega) k2
  | m + 1, i, hi, hr, h24 => by
    have ft : (nI f).toInt = f := nI_toInt (by omega)
    refine readM_in hx hn (by omega) hl hlen b1 b2 (by rw [ft]; omega) (by omega) ?_
    refine readM_in hx hn (by omega) hl hlen b1 b2 (by rw [ft]; omega) (by omega) ?_
    have e3 : (3 : Int32) * nI n = nI (3 * n) := by rw [show (3 : Int32) = nI 3 from rfl, pk_mul]
    have vx : vp_in (nI x) 4 := vp_in_nI (by omega) (by omega)
    have cx : (nI x).toNatClampNeg = x := nI_clamp (by omega)
    have ea : (40 : Int32) * nI x + nI f + nI (3 * i + 1 + 1) - 2 = nI (40 * x + f + 3 * i) := by
      rw [c40_nI, nI_add, show 40 * x + f + (3 * i + 1 + 1) = 40 * x + f + 3 * i + 2 by omega, nI_s2]
    have ea1 : nI (40 * x + f + 3 * i) + 1 = nI (40 * x + f + 3 * i + 1) := nI_1 _
    have ea2 : nI (40 * x + f + 3 * i) + 2 = nI (40 * x + f + 3 * i + 2) := nI_add _ 2
    refine wX12_read_48 ?_
    rw [e3, cx, b1, hl, if_pos b2, if_pos rfl, if_pos ((in64 (by omega) (by omega)).mpr (by rw [ft]; omega)), nI_1, ea, ea1, ea2, nI_clamp (by omega), nI_clamp (by omega), nI_clamp (by omega), h0, nI_add, nI_1]
    rw [rdR_s (m := m)] at hr
    have bad : ¬ goodB I x f i = true → P (-20 - nI i) I J := fun z => by
      rw [if_neg z] at hr
      exact k1 _ hr
    refine ⟨fun z => absurd z (nI_ge (by omega) (by omega)), fun _ => ⟨fun z => absurd rfl z, fun _ => ⟨vx, fun _ => vx, fun _ _ => vx, fun z => absurd rfl z, fun _ => ⟨fun z => absurd ((mod3 _ (by omega)).mpr (by omega)) z, fun _ => ⟨vp_in_nI (by omega) (by omega), fun z => bad (fun g => z (of_decide_eq_true g).1), fun g1 => ⟨vp_in_nI (by omega) (by omega), fun z => bad (fun g => z (of_decide_eq_true g).2.1), fun g2 => ⟨vp_in_nI (by omega) (by omega), fun g3 => ?_, fun z => bad (fun g => z (of_decide_eq_true g).2.2)⟩⟩⟩⟩⟩⟩⟩
    have hgt : goodB I x f i = true := decide_eq_true ⟨g1, g2, g3⟩
    rw [if_pos hgt] at hr
    refine ⟨fun z => ?_, fun z => ?_⟩
    · have hne : ¬ n0 + i = 24 := fun w => z (by rw [w]; rfl)
      rw [if_neg hne] at hr
      have := readM_loop hx hn hl hlen hfl hW b1 b2 h0 hn0 k1 k2 m (i + 1) (by omega) hr (by omega)
      rw [show 3 * (i + 1) = 3 * i + 1 + 1 + 1 by omega] at this
      exact this
    · have he : n0 + i = 24 := (nI_eq (b := 24) (by omega) (by omega)).mp z
      rw [if_pos he] at hr
      exact k1 _ hr
theorem readM_add {E : aE} {P : Int32 → hI_ → hJ_ → Prop} {I0 : hI_} {J : hJ_} {x f W n0 : Nat} {by_ : Int32} (hx : x < 4) (hf : f + 3 * W ≤ 40) (hn0 : n0 + W ≤ 24) (k : ∀ I2, apM I0 I2 n0 W (scl I0 x f) → P (nI W) (upI I2 68 37 by_) J) : ∀ (m i : Nat) (I : hI_), i + m = W → apM I0 I n0 i (scl I0 x f) → HX12_read_232 E P (nI x) (nI f) by_ (nI W) (nI i) I J
  | 0, i, I, hi, ha => by
    have e : i = W := by omega
    subst e
    exact wX12_read_232 ⟨fun _ => k I ha, fun z => absurd (nI_le (by omega) (by omega)) z⟩
  | m + 1, i, I, hi, ha => by
    have e3 : (3 : Int32) * nI i = nI (3 * i) := by rw [show (3 : Int32) = nI 3 from rfl, pk_mul]
    have e93 : I 93 = I0 93 := ha.1 93 (by omega)
    have ea1 : nI (40 * x + f + 3 * i) + 1 = nI (40 * x + f + 3 * i + 1) := nI_1 _
    have ea2 : nI (40 * x + f + 3 * i) + 2 = nI (40 * x + f + 3 * i + 2) := nI_add _ 2
    refine wX12_read_232 ⟨fun z => absurd z (nI_ge (by omega) (by omega)), fun _ => ?_⟩
    rw [e3, c40_nI, nI_add, ea1, ea2, nI_clamp (by omega), nI_clamp (by omega), nI_clamp (by omega), e93, nI_1]
    refine ⟨vp_in_nI (by omega) (by omega), vp_in_nI (by omega) (by omega), vp_in_nI (by omega) (by omega), ?_⟩
    refine tX12_addStep (n := n0 + i) ha.2.1 (by omega) ?_
    exact readM_add hx hf hn0 k m (i + 1) _ (by omega) (apM_s (val := scl I0 x f) (by omega) ha)
theorem Rel_torn {I : hI_} {v : Int32} (h : Rel I) : Rel (upI (upI I 0 13 v) 68 37 v) := by
  obtain ⟨r1, r2, r3, r4, r5, r6, r7, r8, r9⟩ := h
  refine ⟨?_, r2, r3, r4, r5, r6, r7, ?_, ?_⟩
  · rw [upI_at (b := 68), if_neg (by omega)]; exact r1
  · rw [upI_at, if_neg (by omega), upI_at, if_neg (by omega), upI_at, if_neg (by omega), upI_at, if_neg (by omega)]; exact r8
  · rw [upI_at, if_neg (by omega), upI_at, if_pos ⟨rfl, rfl⟩]; exact upI_same.symm
theorem good_bet {I : hI_} (h : Rel I) {x f i : Nat} (hg : goodB I x f i = true) : bet 0 (scl I x f i 0) (nP I - 1) ∧ bet 0 (scl I x f i 1) 999 ∧ bet 1 (scl I x f i 2) 999 := by
  obtain ⟨g1, g2, g3⟩ := of_decide_eq_true hg
  refine ⟨?_, bet_of g2 rfl rfl, bet_of g3 rfl rfl⟩
  have hP := Rel_P h
  rw [hP.2.1] at g1
  obtain ⟨k, hk, e⟩ := in_lt (by omega) g1
  rw [e]
  exact ⟨by rw [nI_toInt (by omega)]; omega, by rw [nI_toInt (by omega)]; omega⟩
theorem Rel_read {I I1 G : hI_} {x f W : Nat} {v : Int32} (h : Rel I) (hn : nS I + W ≤ 24) (hg : ∀ i, i < W → goodB I x f i = true) (hx : apX I I1 (nS I) W (scl I x f)) (hm : apM (upI I1 0 13 v) G (nS I) W (scl I x f)) : Rel (upI G 68 37 v) := by
  generalize hK : (fun a => if a = 82 then G 82 else I1 a : hI_) = K
  have k82 : K 82 = G 82 := by rw [← hK]; exact if_pos rfl
  have ko : ∀ a, a ≠ 82 → K a = I1 a := fun a e => by rw [← hK]; exact if_neg e
  obtain ⟨m1, m2, m3, m4, m5⟩ := hm
  have e82 : (upI I1 0 13 v) 82 = I1 82 := rfl
  rw [e82] at m4 m5
  have hR : Rel K := Rel_app h hn hx ⟨fun a ha => ko a ha, by rw [k82]; exact m2, fun i hi j hj => by rw [k82]; exact m3 i hi j hj, fun j hj => by rw [k82]; exact m4 j hj, fun j q1 q2 => by rw [k82]; exact m5 j q1 q2⟩ (fun i hi => good_bet h (hg i hi))
  have eG : G = upI K 0 13 v := by
    funext a j
    by_cases e : a = 82
    · rw [e, upI_at, if_neg (by omega), k82]
    · rw [m1 a e, upI_at, upI_at]
      by_cases e2 : a = 0 ∧ j = 13
      · rw [if_pos e2, if_pos e2]
      · rw [if_neg e2, if_neg e2, ko a e]
  rw [eG]
  exact Rel_torn hR
theorem wh_nI {I : hI_} {x n len : Nat} {f : Int32} (hl : I (60 + 2 * x) 2 = nI len) (hlen : len ≤ 40) (hn : n ≤ 13) : (∃ f' : Nat, f' < len ∧ f = nI f' ∧ shWh I (60 + 2 * x) f (nI n) = nI (min n ((len - f') / 3))) ∨ (¬ (0 ≤ f.toInt ∧ f.toInt < len) ∧ shWh I (60 + 2 * x) f (nI n) = 0) := by
  unfold shWh
  rw [hl]
  by_cases c : 0 ≤ f ∧ f < nI len
  · left
    have h1 := Int32.le_iff_toInt_le.mp c.1
    have h2 := Int32.lt_iff_toInt_lt.mp c.2
    rw [nI_toInt (by omega)] at h2
    have h0 : (0 : Int32).toInt = 0 := rfl
    have e : f = nI f.toInt.toNat := ofT (by omega)
    have hg : f.toInt.toNat < len := by omega
    refine ⟨f.toInt.toNat, hg, e, ?_⟩
    rw [if_pos c]
    generalize f.toInt.toNat = g at e hg ⊢
    have e1 : nI len - f = nI (len - g) := by
      rw [e]
      have : nI len = nI (len - g) + nI g := by rw [nI_add, show len - g + g = len by omega]
      rw [this, Int32.add_sub_cancel]
    have e2 : nI (len - g) / 3 = nI ((len - g) / 3) := pk_div (a := len - g) (d := 3) (by omega) (by omega) (by omega)
    rw [e1, e2, jmin_nI (by omega) (by omega)]
  · right
    rw [if_neg c]
    refine ⟨fun z => c ⟨Int32.le_iff_toInt_le.mpr z.1, Int32.lt_iff_toInt_lt.mpr ?_⟩, rfl⟩
    rw [nI_toInt (by omega)]; exact z.2
theorem rdR_ext {I I2 : hI_} {x f n0 : Nat} (h1 : I2 93 = I 93) (h2 : I2 73 = I 73) : ∀ m i, rdR I2 x f n0 m i = rdR I x f n0 m i
  | 0, _ => rfl
  | m + 1, i => by
    have e : goodB I2 x f i = goodB I x f i := by unfold goodB scl; rw [h1, h2]
    rw [rdR_s, rdR_s, e, rdR_ext h1 h2 m (i + 1)]
theorem op_read {E : aE} {I : hI_} {J : hJ_} {P : hI_ → hJ_ → Prop} {a0 a1 a2 a3 : Int32} (h : Rel I) (hP : ∀ I2 J2, Rel I2 → P I2 J2) : Op2 E mX11_read mX12_read [.int a0, .int a1, .int a2, .int a3] I J P := by
  have kI := hP I J h
  have bad : ¬ ((0 ≤ a0 ∧ a0 ≤ 3) ∧ (0 ≤ a1 ∧ a1 ≤ 2) ∧ (0 ≤ a3 ∧ a3 ≤ 13)) → CallI E mX12_read [.ref 68, .int a0, .int a1, .int a2, .int a3] SH I J (fun r2 I2 J2 => (-1 : Int32) = r2 ∧ P I2 J2) := fun hb => wX12_read ⟨fun _ => ⟨rfl, kI⟩, fun d1 => ⟨fun _ => ⟨rfl, kI⟩, fun d2 => ⟨fun d3 => absurd ⟨d1, d2, d3⟩ hb, fun _ => ⟨rfl, kI⟩⟩⟩⟩
  refine wX11_read ⟨fun c1 => bad (fun z => c1 z.1), fun c1 => ⟨fun c2 => bad (fun z => c2 z.2.1), fun c2 => ⟨fun c3 => ?_, fun c3 => bad (fun z => c3 z.2.2)⟩⟩⟩
  have goM : ∀ (v : Int32) (F : hI_), HX12_read_48 E (fun r2 I2 J2 => v = r2 ∧ P I2 J2) a0 a1 a2 a3 0 0 0 F J → CallI E mX12_read [.ref 68, .int a0, .int a1, .int a2, .int a3] SH F J (fun r2 I2 J2 => v = r2 ∧ P I2 J2) := fun v F q => wX12_read ⟨fun d => absurd c1 d, fun _ => ⟨fun d => absurd c2 d, fun _ => ⟨fun _ => q, fun d => absurd c3 d⟩⟩⟩
  obtain ⟨x, hx, rfl⟩ := in_le (n := 3) rfl c1
  obtain ⟨n, hn, rfl⟩ := in_le (n := 13) rfl c3
  obtain ⟨q1, q2, q3⟩ := sh_ref (k := x) (by omega)
  obtain ⟨s1, s2, s3, s4⟩ := Rel_shk h (k := x) (by omega)
  have vx : vp_in (nI x) 4 := vp_in_nI (by omega) (by omega)
  have e92 : I 92 x = nI (I 92 x).toInt.toNat := ofT s3.1
  have hlen : (I 92 x).toInt.toNat ≤ 40 := by have := s3.2; omega
  generalize (I 92 x).toInt.toNat = len at e92 hlen
  have e602 : I (60 + 2 * x) 2 = nI len := s2.trans e92
  have hS := Rel_S h
  -- both read nothing
  have zeroX : ∀ fo : Int32, (∀ F : hI_, F = upI I 0 13 fo → HX12_read_48 E (fun r2 I2 J2 => (0 : Int32) = r2 ∧ P I2 J2) (nI x) a1 a2 (nI n) 0 0 0 F J) → HX11_read_99 E (fun r I1 J1 => CallI E mX12_read [.ref 68, .int (nI x), .int a1, .int a2, .int (nI n)] SH I1 J1 (fun r2 I2 J2 => r = r2 ∧ P I2 J2)) (nI x) a2 fo 0 (I 22 3) 0 I J := fun fo q => wX11_read_99 ⟨fun _ => goM 0 _ (q _ rfl), fun z => absurd (Int32.le_refl 0) z⟩
  have zeroM : ∀ fo : Int32, HX12_read_232 E (fun r2 I2 J2 => (0 : Int32) = r2 ∧ P I2 J2) (nI x) a2 fo 0 0 (upI I 0 13 fo) J := fun fo => wX12_read_232 ⟨fun _ => ⟨rfl, hP _ _ (Rel_torn h)⟩, fun z => absurd (Int32.le_refl 0) z⟩
  refine ⟨fun c4 => ⟨vx, 60 + 2 * x, 61 + 2 * x, q1, q2, q3, fun c5 => ?_, fun c5 => ⟨vx, 60 + 2 * x, 61 + 2 * x, q1, q2, q3, ?_⟩⟩, fun c4 => ⟨vx, 60 + 2 * x, 61 + 2 * x, q1, q2, q3, ?_⟩⟩
  · have hn0 : 0 < n := by
      rcases Nat.eq_zero_or_pos n with z | z
      · rw [z] at c4; exact absurd rfl c4
      · exact z
    refine zeroX _ (fun F hF => ?_)
    have F91 : F 91 = I 91 := by rw [hF]; rfl
    have key : (if I (60 + 2 * x) 1 = -1 then (1 : Int32) else if I (60 + 2 * x) 1 = a1 then 0 else 3) = (if I 91 x = -4 then 1 else 3) ∧ (¬ I 91 x = a1 ∨ I 91 x = -4) := by
      rcases s1 with s1 | s1
      · rw [if_pos s1.1, if_pos s1.2]; exact ⟨rfl, Or.inr s1.2⟩
      · have hl : ¬ I 91 x = -4 := fun z => by rw [z] at s1; exact absurd s1.2.1 (by decide)
        have hl1 : ¬ I 91 x = -1 := fun z => by rw [z] at s1; exact absurd s1.2.1 (by decide)
        rw [s1.1, if_neg hl1] at c5 ⊢
        by_cases z : I 91 x = a1
        · rw [if_pos z] at c5; exact absurd rfl c5
        · rw [if_neg z, if_neg hl]; exact ⟨rfl, Or.inl z⟩
    refine readM_wr (by omega) hn hn0 (by rw [F91]; exact key.2) ?_
    rw [F91, ← key.1, hF]
    exact zeroM _
  · have hn0 : 0 < n := by
      rcases Nat.eq_zero_or_pos n with z | z
      · rw [z] at c4; exact absurd rfl c4
      · exact z
    have hL : I 91 x = a1 ∧ ¬ a1 = -4 := by
      rcases s1 with s1 | s1
      · rw [if_pos s1.1] at c5; exact absurd c5 (by decide)
      · have hl : ¬ I 91 x = -4 := fun z => by rw [z] at s1; exact absurd s1.2.1 (by decide)
        have hl1 : ¬ I 91 x = -1 := fun z => by rw [z] at s1; exact absurd s1.2.1 (by decide)
        rw [s1.1, if_neg hl1] at c5
        by_cases z : I 91 x = a1
        · exact ⟨z, fun w => hl (z.trans w)⟩
        · rw [if_neg z] at c5; exact absurd c5 (by decide)
    rcases wh_nI (f := a2) e602 hlen hn with ⟨f, hf, rfl, hW⟩ | ⟨hf, hW⟩
    · rw [hW]
      generalize hWW : min n ((len - f) / 3) = W at hW
      have efo : (if nI n ≤ nI W then (0 : Int32) else 2) = if n ≤ W then 0 else 2 := by
        by_cases z : n ≤ W
        · rw [if_pos z, if_pos (nI_le z (by omega))]
        · rw [if_neg z, if_neg (nI_ge (by omega) (by omega))]
      rw [efo, hS.1]
      refine readX_loop (I0 := I) (len := len) h (by omega) e92 hlen (by omega) (fun v hv I2 g1 g2 g3 => ?_) (fun hv hn24 hg I2 hx2 => ?_) W 0 I (by omega) (apX_0 hS.1) (by omega) (fun u hu => by omega) rfl
      · have hR : Rel I2 := Rel_app (k := 0) (val := scl I x f) h (by omega) ⟨g1, by rw [g2]; exact hS.1, fun j _ => by rw [g2], fun i hi => by omega, g3⟩ (apM_0 (by rw [g1 82 (by omega) (by omega)]; exact hS.2.1))
          (fun i hi => by omega)
        refine goM v I2 ?_
        have ext := rdR_ext (x := x) (f := f) (n0 := nS I) (g1 93 (by omega) (by omega)) (g1 73 (by omega) (by omega))
        refine readM_loop (len := len) (W := W) (n0 := nS I) (by omega) hn (by rw [g1 92 (by omega) (by omega)]; exact e92) hlen hf hWW.symm (by rw [g1 91 (by omega) (by omega)]; exact hL.1) hL.2 (by rw [g1 82 (by omega) (by omega)]; exact hS.2.1) hS.2.2 (fun v2 hv2 => ⟨?_, hP I2 J hR⟩) (fun hv2 => ?_) W 0 (by omega) rfl (by omega)
        · rw [ext, hv] at hv2; cases hv2
        · rw [ext, hv] at hv2; exact Option.some.inj hv2
      · refine goM (nI W) _ ?_
        have o : ∀ a, a ≠ 22 → a ≠ 23 → a ≠ 0 → (upI I2 0 13 (if n ≤ W then 0 else 2)) a = I a := fun a e1 e2 e3 => by
          rw [← hx2.1 a e1 e2]; funext j; rw [upI_at, if_neg (fun z => e3 z.1)]
        generalize hF : upI I2 0 13 (if n ≤ W then 0 else 2) = F at o
        have ext := rdR_ext (x := x) (f := f) (n0 := nS I) (o 93 (by omega) (by omega) (by omega)) (o 73 (by omega) (by omega) (by omega))
        have es : scl F x f = scl I x f := by funext i j; unfold scl; rw [o 93 (by omega) (by omega) (by omega)]
        refine readM_loop (len := len) (W := W) (n0 := nS I) (by omega) hn (by rw [o 92 (by omega) (by omega) (by omega)]; exact e92) hlen hf hWW.symm (by rw [o 91 (by omega) (by omega) (by omega)]; exact hL.1) hL.2 (by rw [o 82 (by omega) (by omega) (by omega)]; exact hS.2.1) hS.2.2 (fun v2 hv2 => ?_) (fun hv2 => ?_) W 0 (by omega) rfl (by omega)
        · rw [ext, hv] at hv2; cases hv2
        · refine readM_add (I0 := F) (n0 := nS I) (by omega) (by omega) hn24 (fun G hm => ⟨rfl, hP _ _ ?_⟩) W 0 F (by omega) (apM_0 (by rw [o 82 (by omega) (by omega) (by omega)]; exact hS.2.1))
          rw [es, ← hF] at hm
          exact Rel_read h hn24 hg hx2 hm
    · rw [hW, if_neg (show ¬ nI n ≤ 0 from nI_ge (a := 0) hn0 (by omega))]
      refine zeroX 2 (fun F hF => ?_)
      have F91 : F 91 = I 91 := by rw [hF]; rfl
      have F92 : F 92 = I 92 := by rw [hF]; rfl
      refine readM_out (k := 0) (len := len) (by omega) hn (by omega) (by rw [F92]; exact e92) hlen (by rw [F91]; exact hL.1) hL.2 (by omega) ?_
      rw [hF]
      exact zeroM 2
  · have hn0 : n = 0 := (nI_eq (b := 0) (by omega) (by omega)).mp c4
    subst hn0
    have hW : shWh I (60 + 2 * x) a2 (nI 0) = 0 := by
      rcases wh_nI (n := 0) (f := a2) e602 hlen (by omega) with ⟨f, hf, -, hW⟩ | ⟨hf, hW⟩
      · rw [hW, Nat.zero_min]; rfl
      · exact hW
    rw [hW, if_pos (show nI 0 ≤ 0 from Int32.le_refl 0)]
    refine zeroX 0 (fun F hF => ?_)
    refine readM_end (k := 0) (by omega) (Or.inl (by omega)) (by omega) ?_
    rw [hF]
    exact zeroM 0
