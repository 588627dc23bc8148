def HX11_call_104 (E : aE) (P : Int32 → hI_ → hJ_ → Prop) (v1 : Int32) (v2 : Int32) (v3 : Int32) (v4 : Int32) (v5 : Int32) (v6 : Int32) (v7 : Int32) (I : hI_) (J : hJ_) : Prop := V E mX11_call (kI SH P) 104 [.ref 0, .int v1, .int v2, .int v3, .int v4, .int v5, .int v6, .int v7, .retAddr 0, .retAddr 0, .retAddr 0] [] (SH, I, J) (0, 0)
set_option maxHeartbeats 4000000 in
set_option maxRecDepth 20000 in
theorem wX11_call {E : aE} {P : Int32 → hI_ → hJ_ → Prop} {I : hI_} {J : hJ_} {a0 : Int32} {a1 : Int32} {a2 : Int32} {a3 : Int32} {a4 : Int32} {a5 : Int32} {a6 : Int32} (k : ((¬ (0 ≤ a0 ∧ a0 ≤ I 3 6 - 1) → P (-1 : Int32) I J) ∧ ((0 ≤ a0 ∧ a0 ≤ I 3 6 - 1) → ((¬ (0 ≤ a1 ∧ a1 ≤ 999) → P (-1 : Int32) I J) ∧ ((0 ≤ a1 ∧ a1 ≤ 999) → ((¬ ((0 : Int32) ≤ a2 ∧ a2 ≤ (1 : Int32)) → P (-1 : Int32) I J) ∧ (((0 : Int32) ≤ a2 ∧ a2 ≤ (1 : Int32)) → ((¬ ((1 : Int32) ≤ a3 ∧ a3 ≤ (999 : Int32)) → P (-1 : Int32) I J) ∧ (((1 : Int32) ≤ a3 ∧ a3 ≤ (999 : Int32)) → ((¬ ((1 : Int32) ≤ a4 ∧ a4 ≤ (99 : Int32)) → P (-1 : Int32) I J) ∧ (((1 : Int32) ≤ a4 ∧ a4 ≤ (99 : Int32)) → ((((0 : Int32) ≤ a5 ∧ a5 ≤ (2 : Int32)) → ((a5 = (0 : Int32) → HX11_call_104 E P a0 a1 a2 a3 a4 a5 a6 I J) ∧ (¬ (a5 = (0 : Int32)) → ((((if ¬ a5 = (1 : Int32) then (0 : Int32) else a1) ≤ a6 ∧ a6 ≤ (999 : Int32)) → HX11_call_104 E P a0 a1 a2 a3 a4 a5 a6 I J) ∧ (¬ (((if ¬ a5 = (1 : Int32) then (0 : Int32) else a1) ≤ a6 ∧ a6 ≤ (999 : Int32))) → P (-1 : Int32) I J))))) ∧ (¬ (((0 : Int32) ≤ a5 ∧ a5 ≤ (2 : Int32))) → P (-1 : Int32) I J))))))))))))) : CallI E mX11_call [.ref 0, .int a0, .int a1, .int a2, .int a3, .int a4, .int a5, .int a6] SH I J P := by
  refine Call_of (L := [.ref 0, .int a0, .int a1, .int a2, .int a3, .int a4, .int a5, .int a6, .retAddr 0, .retAddr 0, .retAddr 0]) ok_X11_call.1 rfl rfl ?_
  refine V_aload_n dX11_call_0 rfl ?_
  refine V_iload_n dX11_call_1 rfl ?_
  refine U_callV1 [.int a0] dX11_call_2 ov_X11_148 s_0 rfl ⟨rfl, rfl, rfl⟩ rfl rfl rfl (tX11_isPlace ?_)
  refine U_ifb_eq dX11_call_5 (fun c1 => ?_) (fun c1 => ?_)
  · have k := k.1 c1
    refine V_iconst (v := (-1 : Int32)) dX11_call_57 rfl ?_
    exact V_iret dX11_call_58 ⟨_, rfl, rfl⟩ rfl rfl ⟨_, _, _, rfl, rfl, k⟩
  · have k := k.2 c1
    refine V_iload_n dX11_call_8 rfl ?_
    refine U_callS1 [.int a1] dX11_call_9 os_X11_159 ⟨rfl, rfl, rfl⟩ rfl rfl rfl (tX11_isMinute ?_)
    refine U_ifb_eq dX11_call_12 (fun c2 => ?_) (fun c2 => ?_)
    · have k := k.1 c2
      refine V_iconst (v := (-1 : Int32)) dX11_call_57 rfl ?_
      exact V_iret dX11_call_58 ⟨_, rfl, rfl⟩ rfl rfl ⟨_, _, _, rfl, rfl, k⟩
    · have k := k.2 c2
      refine V_iload_n dX11_call_15 rfl ?_
      refine V_iconst (v := (0 : Int32)) dX11_call_16 rfl ?_
      refine V_iconst (v := (1 : Int32)) dX11_call_17 rfl ?_
      refine U_callS1 [.int a2, .int (0 : Int32), .int (1 : Int32)] dX11_call_18 os_X11_104 ⟨rfl, rfl, rfl⟩ rfl rfl rfl (tX11_within ?_)
      refine U_ifb_eq dX11_call_21 (fun c3 => ?_) (fun c3 => ?_)
      · have k := k.1 c3
        refine V_iconst (v := (-1 : Int32)) dX11_call_57 rfl ?_
        exact V_iret dX11_call_58 ⟨_, rfl, rfl⟩ rfl rfl ⟨_, _, _, rfl, rfl, k⟩
      · have k := k.2 c3
        refine V_iload dX11_call_24 rfl ?_
        refine V_iconst (v := (1 : Int32)) dX11_call_26 rfl ?_
        refine V_sipush (v := (999 : Int32)) dX11_call_27 rfl ?_
        refine U_callS1 [.int a3, .int (1 : Int32), .int (999 : Int32)] dX11_call_30 os_X11_104 ⟨rfl, rfl, rfl⟩ rfl rfl rfl (tX11_within ?_)
        refine U_ifb_eq dX11_call_33 (fun c4 => ?_) (fun c4 => ?_)
        · have k := k.1 c4
          refine V_iconst (v := (-1 : Int32)) dX11_call_57 rfl ?_
          exact V_iret dX11_call_58 ⟨_, rfl, rfl⟩ rfl rfl ⟨_, _, _, rfl, rfl, k⟩
        · have k := k.2 c4
          refine V_iload dX11_call_36 rfl ?_
          refine V_iconst (v := (1 : Int32)) dX11_call_38 rfl ?_
          refine V_bipush (v := (99 : Int32)) dX11_call_39 rfl ?_
          refine U_callS1 [.int a4, .int (1 : Int32), .int (99 : Int32)] dX11_call_41 os_X11_104 ⟨rfl, rfl, rfl⟩ rfl rfl rfl (tX11_within ?_)
          refine U_ifb_eq dX11_call_44 (fun c5 => ?_) (fun c5 => ?_)
          · have k := k.1 c5
            refine V_iconst (v := (-1 : Int32)) dX11_call_57 rfl ?_
            exact V_iret dX11_call_58 ⟨_, rfl, rfl⟩ rfl rfl ⟨_, _, _, rfl, rfl, k⟩
          · have k := k.2 c5
            refine V_iload dX11_call_47 rfl ?_
            refine V_iconst (v := (0 : Int32)) dX11_call_49 rfl ?_
            refine V_iconst (v := (2 : Int32)) dX11_call_50 rfl ?_
            refine U_callS1 [.int a5, .int (0 : Int32), .int (2 : Int32)] dX11_call_51 os_X11_104 ⟨rfl, rfl, rfl⟩ rfl rfl rfl (tX11_within ?_)
            refine U_ifb_ne dX11_call_54 (fun c6 => ?_) (fun c6 => ?_)
            · have k := k.1 c6
              refine V_iload dX11_call_59 rfl ?_
              refine V_iconst (v := (1 : Int32)) dX11_call_61 rfl ?_
              have key7 : ∀ (y2008 : Int32), y2008 = (if ¬ a5 = (1 : Int32) then (0 : Int32) else a1) → V E mX11_call (kI SH P) 70 [.ref 0, .int a0, .int a1, .int a2, .int a3, .int a4, .int a5, .int a6, .retAddr 0, .retAddr 0, .retAddr 0] [.int y2008] (SH, I, J) (0, 0) := by
                intro y2008 ey2008
                subst ey2008
                refine U_istore (L2 := [.ref 0, .int a0, .int a1, .int a2, .int a3, .int a4, .int a5, .int a6, .int (if ¬ a5 = (1 : Int32) then (0 : Int32) else a1), .retAddr 0, .retAddr 0]) dX11_call_70 (by decide) rfl ?_
                refine V_iload dX11_call_72 rfl ?_
                refine V_if_eq dX11_call_74 (fun c2009 => ?_) (fun c2009 => ?_)
                · have k := k.1 c2009
                  exact V_wk (wk_eq (wk_eq (wk_eq (wk_eq (wk_eq (wk_eq (wk_eq (wk_eq (wk_j (wk_j (wk_j (wk_nil)))))))))))) k
                · have k := k.2 c2009
                  refine V_iload dX11_call_77 rfl ?_
                  refine V_iload dX11_call_79 rfl ?_
                  refine V_iload dX11_call_81 rfl ?_
                  refine V_iconst (v := (1 : Int32)) dX11_call_83 rfl ?_
                  have key2010 : V E mX11_call (kI SH P) 96 [.ref 0, .int a0, .int a1, .int a2, .int a3, .int a4, .int a5, .int a6, .int (if ¬ a5 = (1 : Int32) then (0 : Int32) else a1), .retAddr 0, .retAddr 0] [.int (999 : Int32), .int (if ¬ a5 = (1 : Int32) then (0 : Int32) else a1), .int a6] (SH, I, J) (0, 0) := by
                    refine U_callS1 [.int a6, .int (if ¬ a5 = (1 : Int32) then (0 : Int32) else a1), .int (999 : Int32)] dX11_call_96 os_X11_104 ⟨rfl, rfl, rfl⟩ rfl rfl rfl (tX11_within ?_)
                    refine U_ifb_ne dX11_call_99 (fun c4011 => ?_) (fun c4011 => ?_)
                    · have k := k.1 c4011
                      exact V_wk (wk_eq (wk_eq (wk_eq (wk_eq (wk_eq (wk_eq (wk_eq (wk_eq (wk_j (wk_j (wk_j (wk_nil)))))))))))) k
                    · have k := k.2 c4011
                      refine V_iconst (v := (-1 : Int32)) dX11_call_102 rfl ?_
                      exact V_iret dX11_call_103 ⟨_, rfl, rfl⟩ rfl rfl ⟨_, _, _, rfl, rfl, k⟩
                  refine V_icmp_ne dX11_call_84 (fun c4012 => ?_) (fun c4012 => ?_)
                  · refine V_sipush (v := (999 : Int32)) dX11_call_93 rfl ?_
                    exact key2010
                  · refine V_sipush (v := (999 : Int32)) dX11_call_87 rfl ?_
                    refine V_goto dX11_call_90 ?_
                    exact key2010
              refine V_icmp_ne dX11_call_62 (fun c4013 => ?_) (fun c4013 => ?_)
              · refine V_iconst (v := (0 : Int32)) dX11_call_69 rfl ?_
                exact key7 _ (by rw [if_pos c4013])
              · refine V_iload_n dX11_call_65 rfl ?_
                refine V_goto dX11_call_66 ?_
                exact key7 _ (by rw [if_neg (not_not_intro c4013)])
            · have k := k.2 c6
              refine V_iconst (v := (-1 : Int32)) dX11_call_57 rfl ?_
              exact V_iret dX11_call_58 ⟨_, rfl, rfl⟩ rfl rfl ⟨_, _, _, rfl, rfl, k⟩
set_option maxHeartbeats 4000000 in
set_option maxRecDepth 20000 in
theorem wX11_call_104 {E : aE} {P : Int32 → hI_ → hJ_ → Prop} {I : hI_} {J : hJ_} {v1 : Int32} {v2 : Int32} {v3 : Int32} {v4 : Int32} {v5 : Int32} {v6 : Int32} {v7 : Int32} (k : (((0 : Int32) ≤ (rgr I 24) → (rok (rgrI I 24) 24 8 12) ∧ (rok (rput (rgrI I 24) 24 25 (rgr I 24) (0 : Int32) v1) 24 8 12) ∧ (rok (rput (rput (rgrI I 24) 24 25 (rgr I 24) (0 : Int32) v1) 24 25 (rgr I 24) (1 : Int32) v2) 24 8 12) ∧ (rok (rput (rput (rput (rgrI I 24) 24 25 (rgr I 24) (0 : Int32) v1) 24 25 (rgr I 24) (1 : Int32) v2) 24 25 (rgr I 24) (2 : Int32) v3) 24 8 12) ∧ (rok (rput (rput (rput (rput (rgrI I 24) 24 25 (rgr I 24) (0 : Int32) v1) 24 25 (rgr I 24) (1 : Int32) v2) 24 25 (rgr I 24) (2 : Int32) v3) 24 25 (rgr I 24) (3 : Int32) v4) 24 8 12) ∧ (rok (rput (rput (rput (rput (rput (rgrI I 24) 24 25 (rgr I 24) (0 : Int32) v1) 24 25 (rgr I 24) (1 : Int32) v2) 24 25 (rgr I 24) (2 : Int32) v3) 24 25 (rgr I 24) (3 : Int32) v4) 24 25 (rgr I 24) (4 : Int32) v5) 24 8 12) ∧ (rok (rput (rput (rput (rput (rput (rput (rgrI I 24) 24 25 (rgr I 24) (0 : Int32) v1) 24 25 (rgr I 24) (1 : Int32) v2) 24 25 (rgr I 24) (2 : Int32) v3) 24 25 (rgr I 24) (3 : Int32) v4) 24 25 (rgr I 24) (4 : Int32) v5) 24 25 (rgr I 24) (5 : Int32) v6) 24 8 12) ∧ (rok (rput (rput (rput (rput (rput (rput (rput (rgrI I 24) 24 25 (rgr I 24) (0 : Int32) v1) 24 25 (rgr I 24) (1 : Int32) v2) 24 25 (rgr I 24) (2 : Int32) v3) 24 25 (rgr I 24) (3 : Int32) v4) 24 25 (rgr I 24) (4 : Int32) v5) 24 25 (rgr I 24) (5 : Int32) v6) 24 25 (rgr I 24) (6 : Int32) (if ¬ v6 = (0 : Int32) then v7 else (0 : Int32))) 24 8 12) ∧ P (rgr I 24) (rput (rput (rput (rput (rput (rput (rput (rput (rgrI I 24) 24 25 (rgr I 24) (0 : Int32) v1) 24 25 (rgr I 24) (1 : Int32) v2) 24 25 (rgr I 24) (2 : Int32) v3) 24 25 (rgr I 24) (3 : Int32) v4) 24 25 (rgr I 24) (4 : Int32) v5) 24 25 (rgr I 24) (5 : Int32) v6) 24 25 (rgr I 24) (6 : Int32) (if ¬ v6 = (0 : Int32) then v7 else (0 : Int32))) 24 25 (rgr I 24) (7 : Int32) (-4 : Int32)) J) ∧ (¬ ((0 : Int32) ≤ (rgr I 24)) → P (-3 : Int32) (rgrI I 24) J))) : HX11_call_104 E P v1 v2 v3 v4 v5 v6 v7 I J := by
  show V E mX11_call (kI SH P) 104 [.ref 0, .int v1, .int v2, .int v3, .int v4, .int v5, .int v6, .int v7, .retAddr 0, .retAddr 0, .retAddr 0] [] (SH, I, J) (0, 0)
  refine V_aload_n dX11_call_104 rfl ?_
  refine U_getR dX11_call_105 fl_X11_47 s_0 rfl ?_
  refine U_getR dX11_call_108 fl_X11_203 s_21 rfl ?_
  refine U_astore (L2 := [.ref 0, .int v1, .int v2, .int v3, .int v4, .int v5, .int v6, .int v7, .retAddr 0, .ref 24, .retAddr 0]) dX11_call_111 (by decide) rfl ?_
  refine V_aload dX11_call_113 rfl ?_
  refine U_callV1 [] dX11_call_115 ov_X11_180 s_24 rfl ⟨rfl, rfl, rfl⟩ rfl rfl rfl (tX5_grow s_24 s_25 ?_)
  refine U_istore (L2 := [.ref 0, .int v1, .int v2, .int v3, .int v4, .int v5, .int v6, .int v7, .retAddr 0, .ref 24, .int (rgr I 24)]) dX11_call_118 (by decide) rfl ?_
  refine V_iload dX11_call_120 rfl ?_
  refine V_if_ge dX11_call_122 (fun c1 => ?_) (fun c1 => ?_)
  · have k := k.1 c1
    refine V_aload dX11_call_128 rfl ?_
    refine V_iload dX11_call_130 rfl ?_
    refine V_iconst (v := (0 : Int32)) dX11_call_132 rfl ?_
    refine V_iload_n dX11_call_133 rfl ?_
    obtain ⟨hp2, k⟩ := k
    refine U_callV0 [.int (rgr I 24), .int (0 : Int32), .int v1] dX11_call_134 ov_X11_185 s_24 rfl ⟨rfl, rfl, rfl⟩ rfl rfl rfl (tX5_put s_24 s_25 (by decide) hp2 ?_)
    refine V_aload dX11_call_137 rfl ?_
    refine V_iload dX11_call_139 rfl ?_
    refine V_iconst (v := (1 : Int32)) dX11_call_141 rfl ?_
    refine V_iload_n dX11_call_142 rfl ?_
    obtain ⟨hp3, k⟩ := k
    refine U_callV0 [.int (rgr I 24), .int (1 : Int32), .int v2] dX11_call_143 ov_X11_185 s_24 rfl ⟨rfl, rfl, rfl⟩ rfl rfl rfl (tX5_put s_24 s_25 (by decide) hp3 ?_)
    refine V_aload dX11_call_146 rfl ?_
    refine V_iload dX11_call_148 rfl ?_
    refine V_iconst (v := (2 : Int32)) dX11_call_150 rfl ?_
    refine V_iload_n dX11_call_151 rfl ?_
    obtain ⟨hp4, k⟩ := k
    refine U_callV0 [.int (rgr I 24), .int (2 : Int32), .int v3] dX11_call_152 ov_X11_185 s_24 rfl ⟨rfl, rfl, rfl⟩ rfl rfl rfl (tX5_put s_24 s_25 (by decide) hp4 ?_)
    refine V_aload dX11_call_155 rfl ?_
    refine V_iload dX11_call_157 rfl ?_
    refine V_iconst (v := (3 : Int32)) dX11_call_159 rfl ?_
    refine V_iload dX11_call_160 rfl ?_
    obtain ⟨hp5, k⟩ := k
    refine U_callV0 [.int (rgr I 24), .int (3 : Int32), .int v4] dX11_call_162 ov_X11_185 s_24 rfl ⟨rfl, rfl, rfl⟩ rfl rfl rfl (tX5_put s_24 s_25 (by decide) hp5 ?_)
    refine V_aload dX11_call_165 rfl ?_
    refine V_iload dX11_call_167 rfl ?_
    refine V_iconst (v := (4 : Int32)) dX11_call_169 rfl ?_
    refine V_iload dX11_call_170 rfl ?_
    obtain ⟨hp6, k⟩ := k
    refine U_callV0 [.int (rgr I 24), .int (4 : Int32), .int v5] dX11_call_172 ov_X11_185 s_24 rfl ⟨rfl, rfl, rfl⟩ rfl rfl rfl (tX5_put s_24 s_25 (by decide) hp6 ?_)
    refine V_aload dX11_call_175 rfl ?_
    refine V_iload dX11_call_177 rfl ?_
    refine V_iconst (v := (5 : Int32)) dX11_call_179 rfl ?_
    refine V_iload dX11_call_180 rfl ?_
    obtain ⟨hp7, k⟩ := k
    refine U_callV0 [.int (rgr I 24), .int (5 : Int32), .int v6] dX11_call_182 ov_X11_185 s_24 rfl ⟨rfl, rfl, rfl⟩ rfl rfl rfl (tX5_put s_24 s_25 (by decide) hp7 ?_)
    refine V_aload dX11_call_185 rfl ?_
    refine V_iload dX11_call_187 rfl ?_
    refine V_bipush (v := (6 : Int32)) dX11_call_189 rfl ?_
    refine V_iload dX11_call_191 rfl ?_
    have key8 : ∀ (y2009 : Int32), y2009 = (if ¬ v6 = (0 : Int32) then v7 else (0 : Int32)) → V E mX11_call (kI SH P) 202 [.ref 0, .int v1, .int v2, .int v3, .int v4, .int v5, .int v6, .int v7, .retAddr 0, .ref 24, .int (rgr I 24)] [.int y2009, .int (6 : Int32), .int (rgr I 24), .ref 24] (SH, rput (rput (rput (rput (rput (rput (rgrI I 24) 24 25 (rgr I 24) (0 : Int32) v1) 24 25 (rgr I 24) (1 : Int32) v2) 24 25 (rgr I 24) (2 : Int32) v3) 24 25 (rgr I 24) (3 : Int32) v4) 24 25 (rgr I 24) (4 : Int32) v5) 24 25 (rgr I 24) (5 : Int32) v6, J) (0, 0) := by
      intro y2009 ey2009
      subst ey2009
      obtain ⟨hp2010, k⟩ := k
      refine U_callV0 [.int (rgr I 24), .int (6 : Int32), .int (if ¬ v6 = (0 : Int32) then v7 else (0 : Int32))] dX11_call_202 ov_X11_185 s_24 rfl ⟨rfl, rfl, rfl⟩ rfl rfl rfl (tX5_put s_24 s_25 (by decide) hp2010 ?_)
      refine V_aload dX11_call_205 rfl ?_
      refine V_iload dX11_call_207 rfl ?_
      refine V_bipush (v := (7 : Int32)) dX11_call_209 rfl ?_
      refine V_bipush (v := (-4 : Int32)) dX11_call_211 rfl ?_
      obtain ⟨hp2011, k⟩ := k
      refine U_callV0 [.int (rgr I 24), .int (7 : Int32), .int (-4 : Int32)] dX11_call_213 ov_X11_185 s_24 rfl ⟨rfl, rfl, rfl⟩ rfl rfl rfl (tX5_put s_24 s_25 (by decide) hp2011 ?_)
      refine V_iload dX11_call_216 rfl ?_
      exact V_iret dX11_call_218 ⟨_, rfl, rfl⟩ rfl rfl ⟨_, _, _, rfl, rfl, k⟩
    refine V_if_ne dX11_call_193 (fun c2012 => ?_) (fun c2012 => ?_)
    · refine V_iload dX11_call_200 rfl ?_
      exact key8 _ (by rw [if_pos c2012])
    · refine V_iconst (v := (0 : Int32)) dX11_call_196 rfl ?_
      refine V_goto dX11_call_197 ?_
      exact key8 _ (by rw [if_neg (not_not_intro c2012)])
  · have k := k.2 c1
    refine V_bipush (v := (-3 : Int32)) dX11_call_125 rfl ?_
    exact V_iret dX11_call_127 ⟨_, rfl, rfl⟩ rfl rfl ⟨_, _, _, rfl, rfl, k⟩
def HX12_call_117 (E : aE) (P : Int32 → hI_ → hJ_ → Prop) (v1 : Int32) (v2 : Int32) (v3 : Int32) (v4 : Int32) (v5 : Int32) (v6 : Int32) (v7 : Int32) (I : hI_) (J : hJ_) : Prop := V E mX12_call (kI SH P) 117 [.ref 68, .int v1, .int v2, .int v3, .int v4, .int v5, .int v6, .int v7, .retAddr 0, .retAddr 0, .retAddr 0] [] (SH, I, J) (0, 0)
set_option maxHeartbeats 4000000 in
set_option maxRecDepth 20000 in
theorem wX12_call {E : aE} {P : Int32 → hI_ → hJ_ → Prop} {I : hI_} {J : hJ_} {a0 : Int32} {a1 : Int32} {a2 : Int32} {a3 : Int32} {a4 : Int32} {a5 : Int32} {a6 : Int32} (k : ((¬ ((0 ≤ a0 ∧ a0 ≤ I 73 0 - 1) ∧ ((0 ≤ a1 ∧ a1 ≤ 999) ∧ (((0 : Int32) ≤ a2 ∧ a2 ≤ (1 : Int32)) ∧ (((1 : Int32) ≤ a3 ∧ a3 ≤ (999 : Int32)) ∧ (((1 : Int32) ≤ a4 ∧ a4 ≤ (99 : Int32)) ∧ ((0 : Int32) ≤ a5 ∧ a5 ≤ (2 : Int32))))))) → P (-1 : Int32) I J) ∧ (((0 ≤ a0 ∧ a0 ≤ I 73 0 - 1) ∧ ((0 ≤ a1 ∧ a1 ≤ 999) ∧ (((0 : Int32) ≤ a2 ∧ a2 ≤ (1 : Int32)) ∧ (((1 : Int32) ≤ a3 ∧ a3 ≤ (999 : Int32)) ∧ (((1 : Int32) ≤ a4 ∧ a4 ≤ (99 : Int32)) ∧ ((0 : Int32) ≤ a5 ∧ a5 ≤ (2 : Int32))))))) → ((¬ a5 = (1 : Int32) → ((¬ a5 = (2 : Int32) → HX12_call_117 E P a0 a1 a2 a3 a4 a5 a6 I J) ∧ (a5 = (2 : Int32) → ((((0 : Int32) ≤ a6 ∧ a6 ≤ (999 : Int32)) → HX12_call_117 E P a0 a1 a2 a3 a4 a5 a6 I J) ∧ (¬ (((0 : Int32) ≤ a6 ∧ a6 ≤ (999 : Int32))) → P (-1 : Int32) I J))))) ∧ (a5 = (1 : Int32) → ((¬ (a1 ≤ a6 ∧ a6 ≤ (999 : Int32)) → P (-1 : Int32) I J) ∧ ((a1 ≤ a6 ∧ a6 ≤ (999 : Int32)) → ((¬ a5 = (2 : Int32) → HX12_call_117 E P a0 a1 a2 a3 a4 a5 a6 I J) ∧ (a5 = (2 : Int32) → ((((0 : Int32) ≤ a6 ∧ a6 ≤ (999 : Int32)) → HX12_call_117 E P a0 a1 a2 a3 a4 a5 a6 I J) ∧ (¬ (((0 : Int32) ≤ a6 ∧ a6 ≤ (999 : Int32))) → P (-1 : Int32) I J))))))))))) : CallI E mX12_call [.ref 68, .int a0, .int a1, .int a2, .int a3, .int a4, .int a5, .int a6] SH I J P := by
  refine Call_of (L := [.ref 68, .int a0, .int a1, .int a2, .int a3, .int a4, .int a5, .int a6, .retAddr 0, .retAddr 0, .retAddr 0]) ok_X12_call.1 rfl rfl ?_
  refine V_aload_n dX12_call_0 rfl ?_
  refine V_iload_n dX12_call_1 rfl ?_
  refine U_callV1 [.int a0] dX12_call_2 ov_X12_167 s_68 rfl ⟨rfl, rfl, rfl⟩ rfl rfl rfl (tX12_isPlace ?_)
  have key1 : ∀ (y2002 : Int32), y2002 = (b2i ((0 ≤ a0 ∧ a0 ≤ I 73 0 - 1) ∧ ((0 ≤ a1 ∧ a1 ≤ 999) ∧ (((0 : Int32) ≤ a2 ∧ a2 ≤ (1 : Int32)) ∧ (((1 : Int32) ≤ a3 ∧ a3 ≤ (999 : Int32)) ∧ (((1 : Int32) ≤ a4 ∧ a4 ≤ (99 : Int32)) ∧ ((0 : Int32) ≤ a5 ∧ a5 ≤ (2 : Int32)))))))) → V E mX12_call (kI SH P) 69 [.ref 68, .int a0, .int a1, .int a2, .int a3, .int a4, .int a5, .int a6, .retAddr 0, .retAddr 0, .retAddr 0] [.int y2002] (SH, I, J) (0, 0) := by
    intro y2002 ey2002
    subst ey2002
    refine U_istore (L2 := [.ref 68, .int a0, .int a1, .int a2, .int a3, .int a4, .int a5, .int a6, .int (b2i ((0 ≤ a0 ∧ a0 ≤ I 73 0 - 1) ∧ ((0 ≤ a1 ∧ a1 ≤ 999) ∧ (((0 : Int32) ≤ a2 ∧ a2 ≤ (1 : Int32)) ∧ (((1 : Int32) ≤ a3 ∧ a3 ≤ (999 : Int32)) ∧ (((1 : Int32) ≤ a4 ∧ a4 ≤ (99 : Int32)) ∧ ((0 : Int32) ≤ a5 ∧ a5 ≤ (2 : Int32)))))))), .retAddr 0, .retAddr 0]) dX12_call_69 (by decide) rfl ?_
    refine V_iload dX12_call_71 rfl ?_
    refine U_ifb_eq dX12_call_73 (fun c2003 => ?_) (fun c2003 => ?_)
    · have k := k.1 c2003
      refine V_iconst (v := (-1 : Int32)) dX12_call_115 rfl ?_
      exact V_iret dX12_call_116 ⟨_, rfl, rfl⟩ rfl rfl ⟨_, _, _, rfl, rfl, k⟩
    · have k := k.2 c2003
      refine V_iload dX12_call_76 rfl ?_
      refine V_iconst (v := (1 : Int32)) dX12_call_78 rfl ?_
      refine V_icmp_ne dX12_call_79 (fun c2004 => ?_) (fun c2004 => ?_)
      · have k := k.1 c2004
        refine V_iload dX12_call_96 rfl ?_
        refine V_iconst (v := (2 : Int32)) dX12_call_98 rfl ?_
        refine V_icmp_ne dX12_call_99 (fun c2005 => ?_) (fun c2005 => ?_)
        · have k := k.1 c2005
          exact V_wk (wk_eq (wk_eq (wk_eq (wk_eq (wk_eq (wk_eq (wk_eq (wk_eq (wk_j (wk_j (wk_j (wk_nil)))))))))))) k
        · have k := k.2 c2005
          refine V_iload dX12_call_102 rfl ?_
          refine V_i2l dX12_call_104 ?_
          refine V_lconst (v := (0 : Int64)) dX12_call_105 rfl ?_
          refine V_ldc2_w (v := (999 : Int64)) dX12_call_106 (gt_6 19 rfl rfl) ?_
          refine U_callS1 [.long a6.toInt64, .long (0 : Int64), .long (999 : Int64)] dX12_call_109 os_X12_91 ⟨rfl, rfl, rfl⟩ rfl rfl rfl (tX12_in32 (v := a6) (lo := (0 : Int32)) (hi := (999 : Int32)) rfl (by decide) (by decide) ?_)
          refine U_ifb_ne dX12_call_112 (fun c2006 => ?_) (fun c2006 => ?_)
          · have k := k.1 c2006
            exact V_wk (wk_eq (wk_eq (wk_eq (wk_eq (wk_eq (wk_eq (wk_eq (wk_eq (wk_j (wk_j (wk_j (wk_nil)))))))))))) k
          · have k := k.2 c2006
            refine V_iconst (v := (-1 : Int32)) dX12_call_115 rfl ?_
            exact V_iret dX12_call_116 ⟨_, rfl, rfl⟩ rfl rfl ⟨_, _, _, rfl, rfl, k⟩
      · have k := k.2 c2004
        refine V_iload dX12_call_82 rfl ?_
        refine V_i2l dX12_call_84 ?_
        refine V_iload_n dX12_call_85 rfl ?_
        refine V_i2l dX12_call_86 ?_
        refine V_ldc2_w (v := (999 : Int64)) dX12_call_87 (gt_6 19 rfl rfl) ?_
        refine U_callS1 [.long a6.toInt64, .long a1.toInt64, .long (999 : Int64)] dX12_call_90 os_X12_91 ⟨rfl, rfl, rfl⟩ rfl rfl rfl (tX12_in32 (v := a6) (lo := a1) (hi := (999 : Int32)) rfl rfl (by decide) ?_)
        refine U_ifb_eq dX12_call_93 (fun c2007 => ?_) (fun c2007 => ?_)
        · have k := k.1 c2007
          refine V_iconst (v := (-1 : Int32)) dX12_call_115 rfl ?_
          exact V_iret dX12_call_116 ⟨_, rfl, rfl⟩ rfl rfl ⟨_, _, _, rfl, rfl, k⟩
        · have k := k.2 c2007
          refine V_iload dX12_call_96 rfl ?_
          refine V_iconst (v := (2 : Int32)) dX12_call_98 rfl ?_
          refine V_icmp_ne dX12_call_99 (fun c2008 => ?_) (fun c2008 => ?_)
          · have k := k.1 c2008
            exact V_wk (wk_eq (wk_eq (wk_eq (wk_eq (wk_eq (wk_eq (wk_eq (wk_eq (wk_j (wk_j (wk_j (wk_nil)))))))))))) k
          · have k := k.2 c2008
            refine V_iload dX12_call_102 rfl ?_
            refine V_i2l dX12_call_104 ?_
            refine V_lconst (v := (0 : Int64)) dX12_call_105 rfl ?_
            refine V_ldc2_w (v := (999 : Int64)) dX12_call_106 (gt_6 19 rfl rfl) ?_
            refine U_callS1 [.long a6.toInt64, .long (0 : Int64), .long (999 : Int64)] dX12_call_109 os_X12_91 ⟨rfl, rfl, rfl⟩ rfl rfl rfl (tX12_in32 (v := a6) (lo := (0 : Int32)) (hi := (999 : Int32)) rfl (by decide) (by decide) ?_)
            refine U_ifb_ne dX12_call_112 (fun c2009 => ?_) (fun c2009 => ?_)
            · have k := k.1 c2009
              exact V_wk (wk_eq (wk_eq (wk_eq (wk_eq (wk_eq (wk_eq (wk_eq (wk_eq (wk_j (wk_j (wk_j (wk_nil)))))))))))) k
            · have k := k.2 c2009
              refine V_iconst (v := (-1 : Int32)) dX12_call_115 rfl ?_
              exact V_iret dX12_call_116 ⟨_, rfl, rfl⟩ rfl rfl ⟨_, _, _, rfl, rfl, k⟩
  refine U_ifb_eq dX12_call_5 (fun c2010 => ?_) (fun c2010 => ?_)
  · refine V_iconst (v := (0 : Int32)) dX12_call_68 rfl ?_
    exact key1 _ ((b2i_0.mpr (fun q => c2010 q.1)).symm)
  · refine V_iload_n dX12_call_8 rfl ?_
    refine U_callS1 [.int a1] dX12_call_9 os_X12_179 ⟨rfl, rfl, rfl⟩ rfl rfl rfl (tX12_isMinute ?_)
    refine U_ifb_eq dX12_call_12 (fun c2011 => ?_) (fun c2011 => ?_)
    · refine V_iconst (v := (0 : Int32)) dX12_call_68 rfl ?_
      exact key1 _ ((b2i_0.mpr (fun q => (fun q => c2011 q.1) q.2)).symm)
    · refine V_iload_n dX12_call_15 rfl ?_
      refine V_i2l dX12_call_16 ?_
      refine V_lconst (v := (0 : Int64)) dX12_call_17 rfl ?_
      refine V_lconst (v := (1 : Int64)) dX12_call_18 rfl ?_
      refine U_callS1 [.long a2.toInt64, .long (0 : Int64), .long (1 : Int64)] dX12_call_19 os_X12_91 ⟨rfl, rfl, rfl⟩ rfl rfl rfl (tX12_in32 (v := a2) (lo := (0 : Int32)) (hi := (1 : Int32)) rfl (by decide) (by decide) ?_)
      refine U_ifb_eq dX12_call_22 (fun c2012 => ?_) (fun c2012 => ?_)
      · refine V_iconst (v := (0 : Int32)) dX12_call_68 rfl ?_
        exact key1 _ ((b2i_0.mpr (fun q => (fun q => (fun q => c2012 q.1) q.2) q.2)).symm)
      · refine V_iload dX12_call_25 rfl ?_
        refine V_i2l dX12_call_27 ?_
        refine V_lconst (v := (1 : Int64)) dX12_call_28 rfl ?_
        refine V_ldc2_w (v := (999 : Int64)) dX12_call_29 (gt_6 19 rfl rfl) ?_
        refine U_callS1 [.long a3.toInt64, .long (1 : Int64), .long (999 : Int64)] dX12_call_32 os_X12_91 ⟨rfl, rfl, rfl⟩ rfl rfl rfl (tX12_in32 (v := a3) (lo := (1 : Int32)) (hi := (999 : Int32)) rfl (by decide) (by decide) ?_)
        refine U_ifb_eq dX12_call_35 (fun c2013 => ?_) (fun c2013 => ?_)
        · refine V_iconst (v := (0 : Int32)) dX12_call_68 rfl ?_
          exact key1 _ ((b2i_0.mpr (fun q => (fun q => (fun q => (fun q => c2013 q.1) q.2) q.2) q.2)).symm)
        · refine V_iload dX12_call_38 rfl ?_
          refine V_i2l dX12_call_40 ?_
          refine V_lconst (v := (1 : Int64)) dX12_call_41 rfl ?_
          refine V_ldc2_w (v := (99 : Int64)) dX12_call_42 (gt_6 69 rfl rfl) ?_
          refine U_callS1 [.long a4.toInt64, .long (1 : Int64), .long (99 : Int64)] dX12_call_45 os_X12_91 ⟨rfl, rfl, rfl⟩ rfl rfl rfl (tX12_in32 (v := a4) (lo := (1 : Int32)) (hi := (99 : Int32)) rfl (by decide) (by decide) ?_)
          refine U_ifb_eq dX12_call_48 (fun c2014 => ?_) (fun c2014 => ?_)
          · refine V_iconst (v := (0 : Int32)) dX12_call_68 rfl ?_
            exact key1 _ ((b2i_0.mpr (fun q => (fun q => (fun q => (fun q => (fun q => c2014 q.1) q.2) q.2) q.2) q.2)).symm)
          · refine V_iload dX12_call_51 rfl ?_
            refine V_i2l dX12_call_53 ?_
            refine V_lconst (v := (0 : Int64)) dX12_call_54 rfl ?_
            refine V_ldc2_w (v := (2 : Int64)) dX12_call_55 (gt_6 39 rfl rfl) ?_
            refine U_callS1 [.long a5.toInt64, .long (0 : Int64), .long (2 : Int64)] dX12_call_58 os_X12_91 ⟨rfl, rfl, rfl⟩ rfl rfl rfl (tX12_in32 (v := a5) (lo := (0 : Int32)) (hi := (2 : Int32)) rfl (by decide) (by decide) ?_)
            refine U_ifb_eq dX12_call_61 (fun c2015 => ?_) (fun c2015 => ?_)
            · refine V_iconst (v := (0 : Int32)) dX12_call_68 rfl ?_
              exact key1 _ ((b2i_0.mpr (fun q => (fun q => (fun q => (fun q => (fun q => (fun q => c2015 q) q.2) q.2) q.2) q.2) q.2)).symm)
            · refine V_iconst (v := (1 : Int32)) dX12_call_64 rfl ?_
              refine V_goto dX12_call_65 ?_
              exact key1 _ ((b2i_1.mpr (⟨c2010, ⟨c2011, ⟨c2012, ⟨c2013, ⟨c2014, c2015⟩⟩⟩⟩⟩)).symm)
set_option maxHeartbeats 4000000 in
set_option maxRecDepth 20000 in
theorem wX12_call_117 {E : aE} {P : Int32 → hI_ → hJ_ → Prop} {I : hI_} {J : hJ_} {v1 : Int32} {v2 : Int32} {v3 : Int32} {v4 : Int32} {v5 : Int32} {v6 : Int32} {v7 : Int32} (k : ((¬ (I 82 281) = (12 : Int32) → (vp_in ((72 : Int32) + ((8 : Int32) * (I 82 281))) 900) ∧ (vp_in (((72 : Int32) + ((8 : Int32) * (I 82 281))) + (1 : Int32)) 900) ∧ (vp_in (((72 : Int32) + ((8 : Int32) * (I 82 281))) + (2 : Int32)) 900) ∧ (vp_in (((72 : Int32) + ((8 : Int32) * (I 82 281))) + (3 : Int32)) 900) ∧ (vp_in (((72 : Int32) + ((8 : Int32) * (I 82 281))) + (4 : Int32)) 900) ∧ (vp_in (((72 : Int32) + ((8 : Int32) * (I 82 281))) + (5 : Int32)) 900) ∧ (vp_in (((72 : Int32) + ((8 : Int32) * (I 82 281))) + (6 : Int32)) 900) ∧ (vp_in (((72 : Int32) + ((8 : Int32) * (I 82 281))) + (7 : Int32)) 900) ∧ P (I 82 281) (upI (upI (upI (upI (upI (upI (upI (upI (upI I 82 (((72 : Int32) + ((8 : Int32) * (I 82 281))).toNatClampNeg) v1) 82 ((((72 : Int32) + ((8 : Int32) * (I 82 281))) + (1 : Int32)).toNatClampNeg) v2) 82 ((((72 : Int32) + ((8 : Int32) * (I 82 281))) + (2 : Int32)).toNatClampNeg) v3) 82 ((((72 : Int32) + ((8 : Int32) * (I 82 281))) + (3 : Int32)).toNatClampNeg) v4) 82 ((((72 : Int32) + ((8 : Int32) * (I 82 281))) + (4 : Int32)).toNatClampNeg) v5) 82 ((((72 : Int32) + ((8 : Int32) * (I 82 281))) + (5 : Int32)).toNatClampNeg) v6) 82 ((((72 : Int32) + ((8 : Int32) * (I 82 281))) + (6 : Int32)).toNatClampNeg) (if ¬ v6 = (0 : Int32) then v7 else (0 : Int32))) 82 ((((72 : Int32) + ((8 : Int32) * (I 82 281))) + (7 : Int32)).toNatClampNeg) (0 : Int32)) 82 281 (((upI (upI (upI (upI (upI (upI (upI (upI I 82 (((72 : Int32) + ((8 : Int32) * (I 82 281))).toNatClampNeg) v1) 82 ((((72 : Int32) + ((8 : Int32) * (I 82 281))) + (1 : Int32)).toNatClampNeg) v2) 82 ((((72 : Int32) + ((8 : Int32) * (I 82 281))) + (2 : Int32)).toNatClampNeg) v3) 82 ((((72 : Int32) + ((8 : Int32) * (I 82 281))) + (3 : Int32)).toNatClampNeg) v4) 82 ((((72 : Int32) + ((8 : Int32) * (I 82 281))) + (4 : Int32)).toNatClampNeg) v5) 82 ((((72 : Int32) + ((8 : Int32) * (I 82 281))) + (5 : Int32)).toNatClampNeg) v6) 82 ((((72 : Int32) + ((8 : Int32) * (I 82 281))) + (6 : Int32)).toNatClampNeg) (if ¬ v6 = (0 : Int32) then v7 else (0 : Int32))) 82 ((((72 : Int32) + ((8 : Int32) * (I 82 281))) + (7 : Int32)).toNatClampNeg) (0 : Int32)) 82 281) + (1 : Int32))) J) ∧ ((I 82 281) = (12 : Int32) → P (-3 : Int32) I J))) : HX12_call_117 E P v1 v2 v3 v4 v5 v6 v7 I J := by
  show V E mX12_call (kI SH P) 117 [.ref 68, .int v1, .int v2, .int v3, .int v4, .int v5, .int v6, .int v7, .retAddr 0, .retAddr 0, .retAddr 0] [] (SH, I, J) (0, 0)
  refine V_aload_n dX12_call_117 rfl ?_
  refine U_getR dX12_call_118 fl_X12_49 s_68 rfl ?_
  refine V_sipush (v := (281 : Int32)) dX12_call_121 rfl ?_
  refine U_ialdx (x := I 82 281) dX12_call_124 s_82 (by unfold vp_in; decide) rfl ?_
  refine U_istore (L2 := [.ref 68, .int v1, .int v2, .int v3, .int v4, .int v5, .int v6, .int v7, .retAddr 0, .int (I 82 281), .retAddr 0]) dX12_call_125 (by decide) rfl ?_
  refine V_iload dX12_call_127 rfl ?_
  refine V_bipush (v := (12 : Int32)) dX12_call_129 rfl ?_
  refine V_icmp_ne dX12_call_131 (fun c1 => ?_) (fun c1 => ?_)
  · have k := k.1 c1
    refine V_bipush (v := (72 : Int32)) dX12_call_137 rfl ?_
    refine V_bipush (v := (8 : Int32)) dX12_call_139 rfl ?_
    refine V_iload dX12_call_141 rfl ?_
    refine V_imul dX12_call_143 ?_
    refine V_iadd dX12_call_144 ?_
    refine U_istore (L2 := [.ref 68, .int v1, .int v2, .int v3, .int v4, .int v5, .int v6, .int v7, .retAddr 0, .int (I 82 281), .int ((72 : Int32) + ((8 : Int32) * (I 82 281)))]) dX12_call_145 (by decide) rfl ?_
    refine V_aload_n dX12_call_147 rfl ?_
    refine U_getR dX12_call_148 fl_X12_49 s_68 rfl ?_
    refine V_iload dX12_call_151 rfl ?_
    refine V_iload_n dX12_call_153 rfl ?_
    obtain ⟨hb2, k⟩ := k
    refine U_iast dX12_call_154 s_82 hb2 ?_
    refine V_aload_n dX12_call_155 rfl ?_
    refine U_getR dX12_call_156 fl_X12_49 s_68 rfl ?_
    refine V_iload dX12_call_159 rfl ?_
    refine V_iconst (v := (1 : Int32)) dX12_call_161 rfl ?_
    refine V_iadd dX12_call_162 ?_
    refine V_iload_n dX12_call_163 rfl ?_
    obtain ⟨hb3, k⟩ := k
    refine U_iast dX12_call_164 s_82 hb3 ?_
    refine V_aload_n dX12_call_165 rfl ?_
    refine U_getR dX12_call_166 fl_X12_49 s_68 rfl ?_
    refine V_iload dX12_call_169 rfl ?_
    refine V_iconst (v := (2 : Int32)) dX12_call_171 rfl ?_
    refine V_iadd dX12_call_172 ?_
    refine V_iload_n dX12_call_173 rfl ?_
    obtain ⟨hb4, k⟩ := k
    refine U_iast dX12_call_174 s_82 hb4 ?_
    refine V_aload_n dX12_call_175 rfl ?_
    refine U_getR dX12_call_176 fl_X12_49 s_68 rfl ?_
    refine V_iload dX12_call_179 rfl ?_
    refine V_iconst (v := (3 : Int32)) dX12_call_181 rfl ?_
    refine V_iadd dX12_call_182 ?_
    refine V_iload dX12_call_183 rfl ?_
    obtain ⟨hb5, k⟩ := k
    refine U_iast dX12_call_185 s_82 hb5 ?_
    refine V_aload_n dX12_call_186 rfl ?_
    refine U_getR dX12_call_187 fl_X12_49 s_68 rfl ?_
    refine V_iload dX12_call_190 rfl ?_
    refine V_iconst (v := (4 : Int32)) dX12_call_192 rfl ?_
    refine V_iadd dX12_call_193 ?_
    refine V_iload dX12_call_194 rfl ?_
    obtain ⟨hb6, k⟩ := k
    refine U_iast dX12_call_196 s_82 hb6 ?_
    refine V_aload_n dX12_call_197 rfl ?_
    refine U_getR dX12_call_198 fl_X12_49 s_68 rfl ?_
    refine V_iload dX12_call_201 rfl ?_
    refine V_iconst (v := (5 : Int32)) dX12_call_203 rfl ?_
    refine V_iadd dX12_call_204 ?_
    refine V_iload dX12_call_205 rfl ?_
    obtain ⟨hb7, k⟩ := k
    refine U_iast dX12_call_207 s_82 hb7 ?_
    refine V_aload_n dX12_call_208 rfl ?_
    refine U_getR dX12_call_209 fl_X12_49 s_68 rfl ?_
    refine V_iload dX12_call_212 rfl ?_
    refine V_bipush (v := (6 : Int32)) dX12_call_214 rfl ?_
    refine V_iadd dX12_call_216 ?_
    refine V_iload dX12_call_217 rfl ?_
    have key8 : ∀ (y2009 : Int32), y2009 = (if ¬ v6 = (0 : Int32) then v7 else (0 : Int32)) → V E mX12_call (kI SH P) 228 [.ref 68, .int v1, .int v2, .int v3, .int v4, .int v5, .int v6, .int v7, .retAddr 0, .int (I 82 281), .int ((72 : Int32) + ((8 : Int32) * (I 82 281)))] [.int y2009, .int (((72 : Int32) + ((8 : Int32) * (I 82 281))) + (6 : Int32)), .ref 82] (SH, upI (upI (upI (upI (upI (upI I 82 (((72 : Int32) + ((8 : Int32) * (I 82 281))).toNatClampNeg) v1) 82 ((((72 : Int32) + ((8 : Int32) * (I 82 281))) + (1 : Int32)).toNatClampNeg) v2) 82 ((((72 : Int32) + ((8 : Int32) * (I 82 281))) + (2 : Int32)).toNatClampNeg) v3) 82 ((((72 : Int32) + ((8 : Int32) * (I 82 281))) + (3 : Int32)).toNatClampNeg) v4) 82 ((((72 : Int32) + ((8 : Int32) * (I 82 281))) + (4 : Int32)).toNatClampNeg) v5) 82 ((((72 : Int32) + ((8 : Int32) * (I 82 281))) + (5 : Int32)).toNatClampNeg) v6, J) (0, 0) := by
      intro y2009 ey2009
      subst ey2009
      obtain ⟨hb2010, k⟩ := k
      refine U_iast dX12_call_228 s_82 hb2010 ?_
      refine V_aload_n dX12_call_229 rfl ?_
      refine U_getR dX12_call_230 fl_X12_49 s_68 rfl ?_
      refine V_iload dX12_call_233 rfl ?_
      refine V_bipush (v := (7 : Int32)) dX12_call_235 rfl ?_
      refine V_iadd dX12_call_237 ?_
      refine V_iconst (v := (0 : Int32)) dX12_call_238 rfl ?_
      obtain ⟨hb2011, k⟩ := k
      refine U_iast dX12_call_239 s_82 hb2011 ?_
      refine V_aload_n dX12_call_240 rfl ?_
      refine U_getR dX12_call_241 fl_X12_49 s_68 rfl ?_
      refine V_sipush (v := (281 : Int32)) dX12_call_244 rfl ?_
      refine V_dup2 dX12_call_247 ?_
      refine U_ialdx (x := (upI (upI (upI (upI (upI (upI (upI (upI I 82 (((72 : Int32) + ((8 : Int32) * (I 82 281))).toNatClampNeg) v1) 82 ((((72 : Int32) + ((8 : Int32) * (I 82 281))) + (1 : Int32)).toNatClampNeg) v2) 82 ((((72 : Int32) + ((8 : Int32) * (I 82 281))) + (2 : Int32)).toNatClampNeg) v3) 82 ((((72 : Int32) + ((8 : Int32) * (I 82 281))) + (3 : Int32)).toNatClampNeg) v4) 82 ((((72 : Int32) + ((8 : Int32) * (I 82 281))) + (4 : Int32)).toNatClampNeg) v5) 82 ((((72 : Int32) + ((8 : Int32) * (I 82 281))) + (5 : Int32)).toNatClampNeg) v6) 82 ((((72 : Int32) + ((8 : Int32) * (I 82 281))) + (6 : Int32)).toNatClampNeg) (if ¬ v6 = (0 : Int32) then v7 else (0 : Int32))) 82 ((((72 : Int32) + ((8 : Int32) * (I 82 281))) + (7 : Int32)).toNatClampNeg) (0 : Int32)) 82 281) dX12_call_248 s_82 (by unfold vp_in; decide) rfl ?_
      refine V_iconst (v := (1 : Int32)) dX12_call_249 rfl ?_
      refine V_iadd dX12_call_250 ?_
      refine U_iast dX12_call_251 s_82 (by unfold vp_in; decide) ?_
      refine V_iload dX12_call_252 rfl ?_
      exact V_iret dX12_call_254 ⟨_, rfl, rfl⟩ rfl rfl ⟨_, _, _, rfl, rfl, k⟩
    refine V_if_ne dX12_call_219 (fun c2012 => ?_) (fun c2012 => ?_)
    · refine V_iload dX12_call_226 rfl ?_
      exact key8 _ (by rw [if_pos c2012])
    · refine V_iconst (v := (0 : Int32)) dX12_call_222 rfl ?_
      refine V_goto dX12_call_223 ?_
      exact key8 _ (by rw [if_neg (not_not_intro c2012)])
  · have k := k.2 c1
    refine V_bipush (v := (-3 : Int32)) dX12_call_134 rfl ?_
    exact V_iret dX12_call_136 ⟨_, rfl, rfl⟩ rfl rfl ⟨_, _, _, rfl, rfl, k⟩
/-- a call put behind the others -/
def acX (I I2 : hI_) (n : Nat) (val : Nat → Int32) : Prop := (∀ a, a ≠ 24 → a ≠ 25 → I2 a = I a) ∧ I2 24 3 = nI (n + 1) ∧ (∀ j, j ≠ 3 → I2 24 j = I 24 j) ∧ (∀ j, j < 8 → I2 25 (8 * n + j) = val j) ∧ (∀ j, j < 8 * n → I2 25 j = I 25 j)
def acM (I I2 : hI_) (n : Nat) (val : Nat → Int32) : Prop := (∀ a, a ≠ 82 → I2 a = I a) ∧ I2 82 281 = nI (n + 1) ∧ (∀ j, j < 8 → I2 82 (72 + 8 * n + j) = val j) ∧ (∀ j, j ≠ 281 → (j < 72 + 8 * n ∨ 72 + 8 * n + 8 ≤ j) → I2 82 j = I 82 j)
def up8 (I : hI_) (c o : Nat) (val : Nat → Int32) : hI_ := upI (upI (upI (upI (upI (upI (upI (upI I c o (val 0)) c (o + 1) (val 1)) c (o + 2) (val 2)) c (o + 3) (val 3)) c (o + 4) (val 4)) c (o + 5) (val 5)) c (o + 6) (val 6)) c (o + 7) (val 7)
theorem up8_at {I : hI_} {c o a j : Nat} {val : Nat → Int32} : up8 I c o val a j = if a = c ∧ o ≤ j ∧ j < o + 8 then val (j - o) else I a j := by
  unfold up8
  have hit : ∀ (K : hI_) (k : Nat) (v : Int32), a = c → j = o + k → upI K c (o + k) v a j = v := fun K k v h1 h2 => by rw [upI_at, if_pos ⟨h1, h2⟩]
  have mis : ∀ (K : hI_) (k : Nat) (v : Int32), ¬ (a = c ∧ j = k) → upI K c k v a j = K a j := fun K k v h1 => by rw [upI_at, if_neg h1]
  by_cases hj : a = c ∧ o ≤ j ∧ j < o + 8
  · rw [if_pos hj]
    obtain ⟨k, hk, hjk⟩ : ∃ k, k < 8 ∧ j = o + k := ⟨j - o, by omega, by omega⟩
    have ek : j - o = k := by omega
    rw [ek]
    rcases (show k = 0 ∨ k = 1 ∨ k = 2 ∨ k = 3 ∨ k = 4 ∨ k = 5 ∨ k = 6 ∨ k = 7 by omega) with rfl | rfl | rfl | rfl | rfl | rfl | rfl | rfl
    · rw [mis _ _ _ (by omega), mis _ _ _ (by omega), mis _ _ _ (by omega), mis _ _ _ (by omega), mis _ _ _ (by omega), mis _ _ _ (by omega), mis _ _ _ (by omega)]; exact hit _ 0 _ hj.1 hjk
    · rw [mis _ _ _ (by omega), mis _ _ _ (by omega), mis _ _ _ (by omega), mis _ _ _ (by omega), mis _ _ _ (by omega), mis _ _ _ (by omega)]; exact hit _ 1 _ hj.1 hjk
    · rw [mis _ _ _ (by omega), mis _ _ _ (by omega), mis _ _ _ (by omega), mis _ _ _ (by omega), mis _ _ _ (by omega)]; exact hit _ 2 _ hj.1 hjk
    · rw [mis _ _ _ (by omega), mis _ _ _ (by omega), mis _ _ _ (by omega), mis _ _ _ (by omega)]; exact hit _ 3 _ hj.1 hjk
    · rw [mis _ _ _ (by omega), mis _ _ _ (by omega), mis _ _ _ (by omega)]; exact hit _ 4 _ hj.1 hjk
    · rw [mis _ _ _ (by omega), mis _ _ _ (by omega)]; exact hit _ 5 _ hj.1 hjk
    · rw [mis _ _ _ (by omega)]; exact hit _ 6 _ hj.1 hjk
    · exact hit _ 7 _ hj.1 hjk
  · rw [if_neg hj, mis _ _ _ (by omega), mis _ _ _ (by omega), mis _ _ _ (by omega), mis _ _ _ (by omega), mis _ _ _ (by omega), mis _ _ _ (by omega), mis _ _ _ (by omega), mis _ _ _ (by omega)]
theorem Rel_cadd {I I1 I2 : hI_} {val valM : Nat → Int32} (h : Rel I) (hn : nC I < 12) (hx : acX I I1 (nC I) val) (hm : acM I1 I2 (nC I) valM) (he : ∀ j, j < 7 → val j = valM j) (h7 : val 7 = -4) (h7M : valM 7 = 0) (hv : bet 0 (val 0) (nP I - 1) ∧ bet 0 (val 1) 999 ∧ bet 0 (val 2) 1 ∧ bet 1 (val 3) 999 ∧ bet 1 (val 4) 99 ∧ bet 0 (val 5) 2 ∧ (val 5 = 1 → bet (val 1).toInt (val 6) 999) ∧ (val 5 = 2 → bet 0 (val 6) 999) ∧ (val 5 = 0 → val 6 = 0)) : Rel I2 := by
  obtain ⟨x1, x2, x3, x4, x5⟩ := hx
  obtain ⟨m1, m2, m4, m5⟩ := hm
  have hC := Rel_C h
  have hP := Rel_P h
  have e82 : I1 82 = I 82 := x1 82 (by omega) (by omega)
  have s22 : I2 22 = I 22 := (m1 22 (by omega)).trans (x1 22 (by omega) (by omega))
  have s23 : I2 23 = I 23 := (m1 23 (by omega)).trans (x1 23 (by omega) (by omega))
  have s24 : I2 24 = I1 24 := m1 24 (by omega)
  have s25 : I2 25 = I1 25 := m1 25 (by omega)
  have s26 : I2 26 = I 26 := (m1 26 (by omega)).trans (x1 26 (by omega) (by omega))
  have s27 : I2 27 = I 27 := (m1 27 (by omega)).trans (x1 27 (by omega) (by omega))
  have s82 : ∀ j, j ≠ 281 → (j < 72 + 8 * nC I ∨ 72 + 8 * nC I + 8 ≤ j) → I2 82 j = I 82 j := fun j q1 q2 => by rw [m5 j q1 q2, e82]
  obtain ⟨⟨s1, s2⟩, ⟨c1, c2⟩, d1, d2⟩ := h.2.2.2.1
  have hSt : (I 22 3).toInt ≤ 24 := (lt_of_rok h.2.2.1.1).2
  have hDt : (I 26 3).toInt ≤ 24 := (lt_of_rok h.2.2.1.2.2.1).2
  have hct : (I 24 3).toInt = nC I := by rw [hC.1, nI_toInt (by omega)]
  refine Rel_upd h (fun a q1 q2 _ => (m1 a q2).trans (x1 a (by omega) (by omega))) (fun j hj => s82 j (by omega) (by omega)) ?_ ?_
  · refine ⟨by rw [s22]; exact h.2.2.1.1, ?_, by rw [s26]; exact h.2.2.1.2.2.1⟩
    obtain ⟨q1, q2, q3, q4⟩ := h.2.2.1.2.1
    rw [s24]
    refine ⟨by rw [x3 1 (by omega)]; exact q1, by rw [x3 0 (by omega)]; exact q2, by rw [x2]; exact nI_pos' (by omega), by rw [x2]; exact nI_le (b := 12) (by omega) (by omega)⟩
  · rw [s22, s23, s24, s25, s26, s27]
    refine ⟨⟨?_, fun k hk => ?_⟩, ⟨?_, fun c hc => ?_⟩, ?_, fun d hd => ?_⟩
    · rw [s82 (0 + 280) (by omega) (by omega)]; exact s1
    · have := s2 k hk
      rw [s82 (0 + 3 * k) (by omega) (by omega), s82 (0 + 3 * k + 1) (by omega) (by omega), s82 (0 + 3 * k + 2) (by omega) (by omega)]; exact this
    · rw [x2]; exact m2.symm
    · rw [x2, nI_toInt (by omega)] at hc
      simp only [Nat.zero_add]
      by_cases e : c < nC I
      · obtain ⟨g1, g2, g3⟩ := c2 c (by omega)
        simp only [Nat.zero_add] at g1 g3
        refine ⟨fun j hj => ?_, ?_, ?_⟩
        · rw [x5 _ (by omega), s82 _ (by omega) (by omega)]; exact g1 j hj
        · unfold callB at g2 ⊢
          rw [x5 (8 * c) (by omega), x5 (8 * c + 1) (by omega), x5 (8 * c + 2) (by omega), x5 (8 * c + 3) (by omega), x5 (8 * c + 4) (by omega), x5 (8 * c + 5) (by omega), x5 (8 * c + 6) (by omega)]
          exact g2
        · rw [x5 _ (by omega), x5 _ (by omega), s82 _ (by omega) (by omega)]; exact g3
      · have e : c = nC I := by omega
        subst e
        have v0 := x4 0 (by omega)
        simp only [Nat.add_zero] at v0
        refine ⟨fun j hj => ?_, ?_, Or.inl ⟨by rw [x4 7 (by omega)]; exact h7, by rw [m4 7 (by omega)]; exact h7M⟩⟩
        · rw [x4 j (by omega), m4 j (by omega)]; exact he j hj
        · unfold callB
          rw [v0, x4 1 (by omega), x4 2 (by omega), x4 3 (by omega), x4 4 (by omega), x4 5 (by omega), x4 6 (by omega), hP.2.1, nI_toInt (by omega)]
          exact hv
    · rw [s82 (0 + 282) (by omega) (by omega)]; exact d1
    · obtain ⟨g1, p, c, m, q, t, b0, b1, b2, b3, b4, b5, b6, b7, b8, b9, b10, b11, b12, b13⟩ := d2 d hd
      refine ⟨fun j hj => ?_, p, c, m, q, t, b0, b1, b2, b3, ?_, b5, b6, ?_, b8, b9, ?_, b11, b12, b13⟩
      · rw [s82 _ (by omega) (by omega)]; exact g1 j hj
      · rw [x2, nI_toInt (by omega)]; omega
      · rw [x5 _ (by omega)]; exact b7
      · rw [x5 _ (by omega)]; exact b10
def cv8 (a0 a1 a2 a3 a4 a5 a6 l : Int32) (j : Nat) : Int32 := if j = 0 then a0 else if j = 1 then a1 else if j = 2 then a2 else if j = 3 then a3 else if j = 4 then a4 else if j = 5 then a5 else if j = 6 then (if ¬ a5 = 0 then a6 else 0) else l
theorem callX_104 {E : aE} {P : Int32 → hI_ → hJ_ → Prop} {I : hI_} {J : hJ_} {a0 a1 a2 a3 a4 a5 a6 : Int32} (h : Rel I) (k1 : nC I = 12 → P (-3) I J) (k2 : nC I < 12 → ∀ I2, acX I I2 (nC I) (cv8 a0 a1 a2 a3 a4 a5 a6 (-4)) → P (nI (nC I)) I2 J) : HX11_call_104 E P a0 a1 a2 a3 a4 a5 a6 I J := by
  have hC := Rel_C h
  generalize hn : nC I = n at *
  obtain ⟨r1, r2, r3, r4⟩ := (Rel_rows h).2.1
  have er : rgr I 24 = if n < 12 then nI n else -1 := by
    unfold rgr
    rw [r2, hC.1]
    by_cases q : n < 12
    · rw [if_neg (show ¬ (12 : Int32) ≤ nI n from nI_ge (b := 12) q (by omega)), if_pos q]
    · rw [if_pos (show (12 : Int32) ≤ nI n from nI_le (a := 12) (by omega) (by omega)), if_neg q]
  have ei : rgrI I 24 = if n < 12 then upI I 24 3 (nI (n + 1)) else I := by
    unfold rgrI
    rw [r2, hC.1, nI_1]
    by_cases q : n < 12
    · rw [if_neg (show ¬ (12 : Int32) ≤ nI n from nI_ge (b := 12) q (by omega)), if_pos q]
    · rw [if_pos (show (12 : Int32) ≤ nI n from nI_le (a := 12) (by omega) (by omega)), if_neg q]
  refine wX11_call_104 ?_
  rw [er, ei]
  by_cases q : n < 12
  · rw [if_pos q, if_pos q]
    have ok : ∀ I2 : hI_, I2 24 = (upI I 24 3 (nI (n + 1))) 24 → rok I2 24 8 12 ∧ (n : Int) < (I2 24 3).toInt := fun I2 h2 => by
      have e3 : I2 24 3 = nI (n + 1) := by rw [h2]; exact upI_same
      have e1 : I2 24 1 = I 24 1 := by rw [h2]; rfl
      have e0 : I2 24 0 = I 24 0 := by rw [h2]; rfl
      refine ⟨⟨e1.trans r1, e0.trans r2, by rw [e3]; exact nI_pos' (by omega), by rw [e3]; exact nI_le (b := 12) (by omega) (by omega)⟩, by rw [e3, nI_toInt (by omega)]; omega⟩
    have pu : ∀ (I2 : hI_) (j : Nat) (v : Int32), j < 8 → I2 24 = (upI I 24 3 (nI (n + 1))) 24 → rput I2 24 25 (nI n) (nI j) v = upI I2 25 (8 * n + j) v := fun I2 j v hj h2 => by
      have o := ok I2 h2
      rw [rput_nI (w := 8) (m := 12) o.1 o.2 hj (by omega) (by omega) (by omega), Nat.mul_comm n 8]
    generalize hB : upI I 24 3 (nI (n + 1)) = B
    rw [hB] at ok pu
    have p0 := pu B 0 a0 (by omega) rfl
    have p1 := pu (upI B 25 (8 * n) a0) 1 a1 (by omega) rfl
    have p2 := pu (upI (upI B 25 (8 * n) a0) 25 (8 * n + 1) a1) 2 a2 (by omega) rfl
    have p3 := pu (upI (upI (upI B 25 (8 * n) a0) 25 (8 * n + 1) a1) 25 (8 * n + 2) a2) 3 a3 (by omega) rfl
    have p4 := pu (upI (upI (upI (upI B 25 (8 * n) a0) 25 (8 * n + 1) a1) 25 (8 * n + 2) a2) 25 (8 * n + 3) a3) 4 a4 (by omega) rfl
    have p5 := pu (upI (upI (upI (upI (upI B 25 (8 * n) a0) 25 (8 * n + 1) a1) 25 (8 * n + 2) a2) 25 (8 * n + 3) a3) 25 (8 * n + 4) a4) 5 a5 (by omega) rfl
    have p6 := pu (upI (upI (upI (upI (upI (upI B 25 (8 * n) a0) 25 (8 * n + 1) a1) 25 (8 * n + 2) a2) 25 (8 * n + 3) a3) 25 (8 * n + 4) a4) 25 (8 * n + 5) a5) 6 (if ¬ a5 = 0 then a6 else 0) (by omega) rfl
    have p7 := pu (upI (upI (upI (upI (upI (upI (upI B 25 (8 * n) a0) 25 (8 * n + 1) a1) 25 (8 * n + 2) a2) 25 (8 * n + 3) a3) 25 (8 * n + 4) a4) 25 (8 * n + 5) a5) 25 (8 * n + 6) (if ¬ a5 = 0 then a6 else 0)) 7 (-4) (by omega) rfl
    simp only [Nat.add_zero] at p0
    rw [show nI 0 = (0 : Int32) from rfl] at p0
    rw [show nI 1 = (1 : Int32) from rfl] at p1
    rw [show nI 2 = (2 : Int32) from rfl] at p2
    rw [show nI 3 = (3 : Int32) from rfl] at p3
    rw [show nI 4 = (4 : Int32) from rfl] at p4
    rw [show nI 5 = (5 : Int32) from rfl] at p5
    rw [show nI 6 = (6 : Int32) from rfl] at p6
    rw [show nI 7 = (7 : Int32) from rfl] at p7
    refine ⟨fun _ => ?_, fun z => absurd (nI_pos' (by omega)) z⟩
    rw [p0, p1, p2, p3, p4, p5, p6, p7]
    refine ⟨(ok _ rfl).1, (ok _ rfl).1, (ok _ rfl).1, (ok _ rfl).1, (ok _ rfl).1, (ok _ rfl).1, (ok _ rfl).1, (ok _ rfl).1, ?_⟩
    have e8 : (upI (upI (upI (upI (upI (upI (upI (upI B 25 (8 * n) a0) 25 (8 * n + 1) a1) 25 (8 * n + 2) a2) 25 (8 * n + 3) a3) 25 (8 * n + 4) a4) 25 (8 * n + 5) a5) 25 (8 * n + 6) (if ¬ a5 = 0 then a6 else 0)) 25 (8 * n + 7) (-4)) = up8 B 25 (8 * n) (cv8 a0 a1 a2 a3 a4 a5 a6 (-4)) := rfl
    rw [e8]
    refine k2 q _ ⟨fun a ha hb => ?_, ?_, fun j hj => ?_, fun j hj => ?_, fun j hj => ?_⟩
    · funext j
      rw [up8_at, if_neg (fun z => hb z.1), ← hB, upI_at, if_neg (fun z => ha z.1)]
    · rw [up8_at, if_neg (by omega), ← hB]; exact upI_same
    · rw [up8_at, if_neg (by omega), ← hB, upI_at, if_neg (fun z => hj z.2)]
    · rw [up8_at, if_pos ⟨rfl, by omega, by omega⟩, Nat.add_sub_cancel_left]
    · rw [up8_at, if_neg (by omega), ← hB, upI_at, if_neg (by omega)]
  · rw [if_neg q, if_neg q]
    exact ⟨fun z => absurd z (by decide), fun _ => k1 (by omega)⟩
theorem callM_117 {E : aE} {P : Int32 → hI_ → hJ_ → Prop} {I : hI_} {J : hJ_} {a0 a1 a2 a3 a4 a5 a6 : Int32} {n : Nat} (hn : I 82 281 = nI n) (hn2 : n ≤ 12) (k1 : n = 12 → P (-3) I J) (k2 : n < 12 → ∀ I2, acM I I2 n (cv8 a0 a1 a2 a3 a4 a5 a6 0) → P (nI n) I2 J) : HX12_call_117 E P a0 a1 a2 a3 a4 a5 a6 I J := by
  refine wX12_call_117 ?_
  rw [hn, m8_nI]
  refine ⟨fun c => ?_, fun c => k1 ((nI_eq (b := 12) (by omega) (by omega)).mp c)⟩
  have hlt : n < 12 := by
    rcases Nat.lt_or_ge n 12 with q | q
    · exact q
    · exact absurd (by rw [show n = 12 by omega]; rfl) c
  have e1 : nI (72 + 8 * n) + 1 = nI (72 + 8 * n + 1) := nI_1 _
  have e2 : nI (72 + 8 * n) + 2 = nI (72 + 8 * n + 2) := nI_add _ 2
  have e3 : nI (72 + 8 * n) + 3 = nI (72 + 8 * n + 3) := nI_add _ 3
  have e4 : nI (72 + 8 * n) + 4 = nI (72 + 8 * n + 4) := nI_add _ 4
  have e5 : nI (72 + 8 * n) + 5 = nI (72 + 8 * n + 5) := nI_add _ 5
  have e6 : nI (72 + 8 * n) + 6 = nI (72 + 8 * n + 6) := nI_add _ 6
  have e7 : nI (72 + 8 * n) + 7 = nI (72 + 8 * n + 7) := nI_add _ 7
  have cl : ∀ j, j < 8 → (nI (72 + 8 * n + j)).toNatClampNeg = 72 + 8 * n + j := fun j hj => nI_clamp (by omega)
  have vi : ∀ j, j < 8 → vp_in (nI (72 + 8 * n + j)) 900 := fun j hj => vp_in_nI (by omega) (by omega)
  have c0 := cl 0 (by omega)
  simp only [Nat.add_zero] at c0
  rw [e1, e2, e3, e4, e5, e6, e7, c0, cl 1 (by omega), cl 2 (by omega), cl 3 (by omega), cl 4 (by omega), cl 5 (by omega), cl 6 (by omega), cl 7 (by omega)]
  refine ⟨vi 0 (by omega), vi 1 (by omega), vi 2 (by omega), vi 3 (by omega), vi 4 (by omega), vi 5 (by omega), vi 6 (by omega), vi 7 (by omega), ?_⟩
  have e8 : (upI (upI (upI (upI (upI (upI (upI (upI I 82 (72 + 8 * n) a0) 82 (72 + 8 * n + 1) a1) 82 (72 + 8 * n + 2) a2) 82 (72 + 8 * n + 3) a3) 82 (72 + 8 * n + 4) a4) 82 (72 + 8 * n + 5) a5) 82 (72 + 8 * n + 6) (if ¬ a5 = 0 then a6 else 0)) 82 (72 + 8 * n + 7) 0) = up8 I 82 (72 + 8 * n) (cv8 a0 a1 a2 a3 a4 a5 a6 0) := rfl
  rw [e8]
  have e281 : up8 I 82 (72 + 8 * n) (cv8 a0 a1 a2 a3 a4 a5 a6 0) 82 281 = nI n := by
    rw [up8_at, if_neg (by omega)]; exact hn
  rw [e281, nI_1]
  refine k2 hlt _ ⟨fun a ha => ?_, upI_same, fun j hj => ?_, fun j hj1 hj2 => ?_⟩
  · funext j
    rw [upI_at, if_neg (fun z => ha z.1), up8_at, if_neg (fun z => ha z.1)]
  · rw [upI_at, if_neg (by omega), up8_at, if_pos ⟨rfl, by omega, by omega⟩, Nat.add_sub_cancel_left]
  · rw [upI_at, if_neg (fun z => hj1 z.2), up8_at, if_neg (by omega)]
theorem op_call {E : aE} {I : hI_} {J : hJ_} {P : hI_ → hJ_ → Prop} {a0 a1 a2 a3 a4 a5 a6 : Int32} (h : Rel I) (hP : ∀ I2 J2, Rel I2 → P I2 J2) : Op2 E mX11_call mX12_call [.int a0, .int a1, .int a2, .int a3, .int a4, .int a5, .int a6] I J P := by
  have hp := Rel_P h
  have hC := Rel_C h
  have e := Rel_pl h
  have n12 : ∀ {x : Int32}, x = 1 → ¬ x = 2 := fun z => by rw [z]; decide
  have bad : ¬ (((0 ≤ a0 ∧ a0 ≤ I 73 0 - 1) ∧ (0 ≤ a1 ∧ a1 ≤ 999) ∧ (0 ≤ a2 ∧ a2 ≤ 1) ∧ (1 ≤ a3 ∧ a3 ≤ 999) ∧ (1 ≤ a4 ∧ a4 ≤ 99) ∧ (0 ≤ a5 ∧ a5 ≤ 2)) ∧ (a5 = 1 → (a1 ≤ a6 ∧ a6 ≤ 999)) ∧ (a5 = 2 → (0 ≤ a6 ∧ a6 ≤ 999))) → CallI E mX12_call [.ref 68, .int a0, .int a1, .int a2, .int a3, .int a4, .int a5, .int a6] SH I J (fun r2 I2 J2 => (-1 : Int32) = r2 ∧ P I2 J2) := fun hb => wX12_call ⟨fun _ => ⟨rfl, hP I J h⟩, fun d1 => ⟨fun d2 => ⟨fun d3 => absurd ⟨d1, fun z => absurd z d2, fun z => absurd z d3⟩ hb, fun d3 => ⟨fun d4 => absurd ⟨d1, fun z => absurd z d2, fun _ => d4⟩ hb, fun _ => ⟨rfl, hP I J h⟩⟩⟩, fun d2 => ⟨fun _ => ⟨rfl, hP I J h⟩, fun d3 => ⟨fun d4 => absurd ⟨d1, fun _ => d3, fun z => absurd z d4⟩ hb, fun d4 => absurd d4 (n12 d2)⟩⟩⟩⟩
  have good : (((0 ≤ a0 ∧ a0 ≤ I 73 0 - 1) ∧ (0 ≤ a1 ∧ a1 ≤ 999) ∧ (0 ≤ a2 ∧ a2 ≤ 1) ∧ (1 ≤ a3 ∧ a3 ≤ 999) ∧ (1 ≤ a4 ∧ a4 ≤ 99) ∧ (0 ≤ a5 ∧ a5 ≤ 2)) ∧ (a5 = 1 → (a1 ≤ a6 ∧ a6 ≤ 999)) ∧ (a5 = 2 → (0 ≤ a6 ∧ a6 ≤ 999))) → HX11_call_104 E (fun r I1 J1 => CallI E mX12_call [.ref 68, .int a0, .int a1, .int a2, .int a3, .int a4, .int a5, .int a6] SH I1 J1 (fun r2 I2 J2 => r = r2 ∧ P I2 J2)) a0 a1 a2 a3 a4 a5 a6 I J := fun hg => by
    obtain ⟨g0, g1, g2⟩ := hg
    have hM : ∀ (r : Int32) (I1 : hI_), I1 73 = I 73 → HX12_call_117 E (fun r2 I2 J2 => r = r2 ∧ P I2 J2) a0 a1 a2 a3 a4 a5 a6 I1 J → CallI E mX12_call [.ref 68, .int a0, .int a1, .int a2, .int a3, .int a4, .int a5, .int a6] SH I1 J (fun r2 I2 J2 => r = r2 ∧ P I2 J2) := fun r I1 e73 hk => wX12_call ⟨fun d => absurd (by rw [e73]; exact g0) d, fun _ => ⟨fun d2 => ⟨fun _ => hk, fun d3 => ⟨fun _ => hk, fun d4 => absurd (g2 d3) d4⟩⟩, fun d2 => ⟨fun d3 => absurd (g1 d2) d3, fun _ => ⟨fun _ => hk, fun d4 => absurd d4 (n12 d2)⟩⟩⟩⟩
    refine callX_104 h (fun hn => hM _ I rfl ?_) (fun hn I1 hx => hM _ I1 (hx.1 73 (by omega) (by omega)) ?_)
    · exact callM_117 (n := nC I) hC.2.1 hC.2.2 (fun _ => ⟨rfl, hP I J h⟩) (fun z => by omega)
    · refine callM_117 (n := nC I) (by rw [hx.1 82 (by omega) (by omega)]; exact hC.2.1) hC.2.2 (fun z => by omega) (fun _ I2 hm => ⟨rfl, hP I2 J ?_⟩)
      refine Rel_cadd h hn hx hm (fun j hj => ?_) rfl rfl ⟨?_, bet_of g0.2.1 rfl rfl, bet_of g0.2.2.1 rfl rfl, bet_of g0.2.2.2.1 rfl rfl, bet_of g0.2.2.2.2.1 rfl rfl, bet_of g0.2.2.2.2.2 rfl rfl, fun z => ?_, fun z => ?_, fun z => ?_⟩
      · rcases (show j = 0 ∨ j = 1 ∨ j = 2 ∨ j = 3 ∨ j = 4 ∨ j = 5 ∨ j = 6 by omega) with rfl | rfl | rfl | rfl | rfl | rfl | rfl <;> rfl
      · have := g0.1
        rw [hp.2.1] at this
        obtain ⟨x, hx, rfl⟩ := in_lt (by omega) this
        show bet 0 (nI x) _
        exact ⟨by rw [nI_toInt (by omega)]; omega, by rw [nI_toInt (by omega)]; omega⟩
      · have z : a5 = 1 := z
        show bet a1.toInt (if ¬ a5 = 0 then a6 else 0) 999
        rw [if_pos (by rw [z]; decide)]
        exact bet_of (g1 z) rfl rfl
      · have z : a5 = 2 := z
        show bet 0 (if ¬ a5 = 0 then a6 else 0) 999
        rw [if_pos (by rw [z]; decide)]
        exact bet_of (g2 z) rfl rfl
      · have z : a5 = 0 := z
        show (if ¬ a5 = 0 then a6 else 0) = 0
        rw [if_neg (fun w => w z)]
  refine wX11_call ⟨fun c1 => bad (fun z => c1 (by rw [e]; exact z.1.1)), fun c1 => ⟨fun c2 => bad (fun z => c2 z.1.2.1), fun c2 => ⟨fun c3 => bad (fun z => c3 z.1.2.2.1), fun c3 => ⟨fun c4 => bad (fun z => c4 z.1.2.2.2.1), fun c4 => ⟨fun c5 => bad (fun z => c5 z.1.2.2.2.2.1), fun c5 => ⟨fun c6 => ⟨fun c7 => ?_, fun c7 => ⟨fun c8 => ?_, fun c8 => ?_⟩⟩, fun c6 => bad (fun z => c6 z.1.2.2.2.2.2)⟩⟩⟩⟩⟩⟩
  · rw [e] at c1
    exact good ⟨⟨c1, c2, c3, c4, c5, c6⟩, fun z => by rw [c7] at z; exact absurd z (by decide), fun z => by rw [c7] at z; exact absurd z (by decide)⟩
  · rw [e] at c1
    refine good ⟨⟨c1, c2, c3, c4, c5, c6⟩, fun z => ?_, fun z => ?_⟩
    · rw [if_neg (fun w => w z)] at c8; exact c8
    · rw [if_pos (by rw [z]; decide)] at c8; exact c8
  · refine bad (fun z => c8 ?_)
    by_cases w : a5 = 1
    · rw [if_neg (fun q => q w)]; exact z.2.1 w
    · rw [if_pos w]
      obtain ⟨x, hx, hx2⟩ := in_le (n := 2) rfl c6
      rcases (show x = 0 ∨ x = 1 ∨ x = 2 by omega) with rfl | rfl | rfl
      · exact absurd hx2 c7
      · exact absurd hx2 w
      · exact z.2.2 hx2
