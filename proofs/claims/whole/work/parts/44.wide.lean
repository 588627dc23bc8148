def HX12_isNoMore_20 (E : aE) (P : Int32 → hI_ → hJ_ → Prop) (v8 : Int64) (v10 : Int64) (v12 : Int64) (v14 : Int64) (v16 : Int32) (v17 : Int32) (I : hI_) (J : hJ_) : Prop := V E mX12_isNoMore (kI SH P) 20 [.retAddr 0, .retAddr 0, .retAddr 0, .retAddr 0, .retAddr 0, .retAddr 0, .retAddr 0, .retAddr 0, .long v8, .retAddr 0, .long v10, .retAddr 0, .long v12, .retAddr 0, .long v14, .retAddr 0, .int v16, .int v17, .retAddr 0, .retAddr 0] [] (SH, I, J) (0, 0)
set_option maxHeartbeats 4000000 in
set_option maxRecDepth 20000 in
theorem wX12_isNoMore {E : aE} {P : Int32 → hI_ → hJ_ → Prop} {I : hI_} {J : hJ_} {a0 : Int64} {a1 : Int64} {a2 : Int64} {a3 : Int64} (k : HX12_isNoMore_20 E P a0 a1 a2 a3 (0 : Int32) (1 : Int32) I J) : CallI E mX12_isNoMore [.long a0, .long a1, .long a2, .long a3] SH I J P := by
  refine Call_of (L := [.long a0, .retAddr 0, .long a1, .retAddr 0, .long a2, .retAddr 0, .long a3, .retAddr 0, .retAddr 0, .retAddr 0, .retAddr 0, .retAddr 0, .retAddr 0, .retAddr 0, .retAddr 0, .retAddr 0, .retAddr 0, .retAddr 0, .retAddr 0, .retAddr 0]) ok_X12_isNoMore.1 rfl rfl ?_
  refine V_lload_n dX12_isNoMore_0 rfl ?_
  refine U_lstore (L2 := [.long a0, .retAddr 0, .long a1, .retAddr 0, .long a2, .retAddr 0, .long a3, .retAddr 0, .long a0, .retAddr 0, .retAddr 0, .retAddr 0, .retAddr 0, .retAddr 0, .retAddr 0, .retAddr 0, .retAddr 0, .retAddr 0, .retAddr 0, .retAddr 0]) dX12_isNoMore_1 (by decide) rfl ?_
  refine V_lload_n dX12_isNoMore_3 rfl ?_
  refine U_lstore (L2 := [.long a0, .retAddr 0, .long a1, .retAddr 0, .long a2, .retAddr 0, .long a3, .retAddr 0, .long a0, .retAddr 0, .long a1, .retAddr 0, .retAddr 0, .retAddr 0, .retAddr 0, .retAddr 0, .retAddr 0, .retAddr 0, .retAddr 0, .retAddr 0]) dX12_isNoMore_4 (by decide) rfl ?_
  refine V_lload dX12_isNoMore_6 rfl ?_
  refine U_lstore (L2 := [.long a0, .retAddr 0, .long a1, .retAddr 0, .long a2, .retAddr 0, .long a3, .retAddr 0, .long a0, .retAddr 0, .long a1, .retAddr 0, .long a2, .retAddr 0, .retAddr 0, .retAddr 0, .retAddr 0, .retAddr 0, .retAddr 0, .retAddr 0]) dX12_isNoMore_8 (by decide) rfl ?_
  refine V_lload dX12_isNoMore_10 rfl ?_
  refine U_lstore (L2 := [.long a0, .retAddr 0, .long a1, .retAddr 0, .long a2, .retAddr 0, .long a3, .retAddr 0, .long a0, .retAddr 0, .long a1, .retAddr 0, .long a2, .retAddr 0, .long a3, .retAddr 0, .retAddr 0, .retAddr 0, .retAddr 0, .retAddr 0]) dX12_isNoMore_12 (by decide) rfl ?_
  refine V_iconst (v := (0 : Int32)) dX12_isNoMore_14 rfl ?_
  refine U_istore (L2 := [.long a0, .retAddr 0, .long a1, .retAddr 0, .long a2, .retAddr 0, .long a3, .retAddr 0, .long a0, .retAddr 0, .long a1, .retAddr 0, .long a2, .retAddr 0, .long a3, .retAddr 0, .int (0 : Int32), .retAddr 0, .retAddr 0, .retAddr 0]) dX12_isNoMore_15 (by decide) rfl ?_
  refine V_iconst (v := (1 : Int32)) dX12_isNoMore_17 rfl ?_
  refine U_istore (L2 := [.long a0, .retAddr 0, .long a1, .retAddr 0, .long a2, .retAddr 0, .long a3, .retAddr 0, .long a0, .retAddr 0, .long a1, .retAddr 0, .long a2, .retAddr 0, .long a3, .retAddr 0, .int (0 : Int32), .int (1 : Int32), .retAddr 0, .retAddr 0]) dX12_isNoMore_18 (by decide) rfl ?_
  exact V_wk (wk_j (wk_j (wk_j (wk_j (wk_j (wk_j (wk_j (wk_j (wk_eq (wk_j (wk_eq (wk_j (wk_eq (wk_j (wk_eq (wk_j (wk_eq (wk_eq (wk_j (wk_j (wk_nil))))))))))))))))))))) k
set_option maxHeartbeats 4000000 in
set_option maxRecDepth 20000 in
theorem wX12_isNoMore_20 {E : aE} {P : Int32 → hI_ → hJ_ → Prop} {I : hI_} {J : hJ_} {v8 : Int64} {v10 : Int64} {v12 : Int64} {v14 : Int64} {v16 : Int32} {v17 : Int32} (k : ((¬ v16 = (0 : Int32) → (v17 = 0 ∨ v17 = 1) ∧ P v17 I J) ∧ (v16 = (0 : Int32) → (¬ v10 = 0) ∧ (¬ v14 = 0) ∧ (¬ v10 = 0) ∧ (¬ v14 = 0) ∧ ((¬ ((¬ ((v8 / v10) = (v12 / v14))))) → ¬ v10 = 0) ∧ ((¬ ((¬ ((v8 / v10) = (v12 / v14))))) → ¬ v14 = 0) ∧ ((¬ (if (¬ ((v8 / v10) = (v12 / v14))) then (b2i (¬ ((v8 / v10) = (v12 / v14)))) else (if (v8 - v8 / v10 * v10) = (0 : Int64) then (1 : Int32) else (if ¬ (v12 - v12 / v14 * v14) = (0 : Int64) then (0 : Int32) else (1 : Int32)))) = (0 : Int32) → HX12_isNoMore_20 E P (if (¬ ((v8 / v10) = (v12 / v14))) then v8 else (v8 - v8 / v10 * v10)) v10 (if (¬ ((v8 / v10) = (v12 / v14))) then v12 else (v12 - v12 / v14 * v14)) v14 (if (¬ ((v8 / v10) = (v12 / v14))) then (b2i (¬ ((v8 / v10) = (v12 / v14)))) else (if (v8 - v8 / v10 * v10) = (0 : Int64) then (1 : Int32) else (if ¬ (v12 - v12 / v14 * v14) = (0 : Int64) then (0 : Int32) else (1 : Int32)))) (if (¬ ((v8 / v10) = (v12 / v14))) then (b2i (¬ ((v12 / v14) ≤ (v8 / v10)))) else (if ¬ (v8 - v8 / v10 * v10) = (0 : Int64) then (0 : Int32) else (1 : Int32))) I J) ∧ ((if (¬ ((v8 / v10) = (v12 / v14))) then (b2i (¬ ((v8 / v10) = (v12 / v14)))) else (if (v8 - v8 / v10 * v10) = (0 : Int64) then (1 : Int32) else (if ¬ (v12 - v12 / v14 * v14) = (0 : Int64) then (0 : Int32) else (1 : Int32)))) = (0 : Int32) → HX12_isNoMore_20 E P v14 (if (¬ ((v8 / v10) = (v12 / v14))) then v12 else (v12 - v12 / v14 * v14)) v10 (if (¬ ((v8 / v10) = (v12 / v14))) then v8 else (v8 - v8 / v10 * v10)) (if (¬ ((v8 / v10) = (v12 / v14))) then (b2i (¬ ((v8 / v10) = (v12 / v14)))) else (if (v8 - v8 / v10 * v10) = (0 : Int64) then (1 : Int32) else (if ¬ (v12 - v12 / v14 * v14) = (0 : Int64) then (0 : Int32) else (1 : Int32)))) (if (¬ ((v8 / v10) = (v12 / v14))) then (b2i (¬ ((v12 / v14) ≤ (v8 / v10)))) else (if ¬ (v8 - v8 / v10 * v10) = (0 : Int64) then (0 : Int32) else (1 : Int32))) I J))))) : HX12_isNoMore_20 E P v8 v10 v12 v14 v16 v17 I J := by
  show V E mX12_isNoMore (kI SH P) 20 [.retAddr 0, .retAddr 0, .retAddr 0, .retAddr 0, .retAddr 0, .retAddr 0, .retAddr 0, .retAddr 0, .long v8, .retAddr 0, .long v10, .retAddr 0, .long v12, .retAddr 0, .long v14, .retAddr 0, .int v16, .int v17, .retAddr 0, .retAddr 0] [] (SH, I, J) (0, 0)
  refine V_iload dX12_isNoMore_20 rfl ?_
  refine V_if_ne dX12_isNoMore_22 (fun c1 => ?_) (fun c1 => ?_)
  · have k := k.1 c1
    refine V_iload dX12_isNoMore_153 rfl ?_
    obtain ⟨hz2, k⟩ := k
    exact V_iret dX12_isNoMore_155 ⟨_, rfl, z_nar hz2⟩ rfl rfl ⟨_, _, _, rfl, rfl, k⟩
  · have k := k.2 c1
    refine V_lload dX12_isNoMore_25 rfl ?_
    refine V_lload dX12_isNoMore_27 rfl ?_
    obtain ⟨hz3, k⟩ := k
    refine V_ldiv dX12_isNoMore_29 hz3 ?_
    refine V_lload dX12_isNoMore_30 rfl ?_
    refine V_lload dX12_isNoMore_32 rfl ?_
    obtain ⟨hz4, k⟩ := k
    refine V_ldiv dX12_isNoMore_34 hz4 ?_
    have key5 : ∀ (y2006 : Int32), y2006 = (b2i (¬ ((v8 / v10) = (v12 / v14)))) → V E mX12_isNoMore (kI SH P) 44 [.retAddr 0, .retAddr 0, .retAddr 0, .retAddr 0, .retAddr 0, .retAddr 0, .retAddr 0, .retAddr 0, .long v8, .retAddr 0, .long v10, .retAddr 0, .long v12, .retAddr 0, .long v14, .retAddr 0, .int v16, .int v17, .retAddr 0, .retAddr 0] [.int y2006] (SH, I, J) (0, 0) := by
      intro y2006 ey2006
      subst ey2006
      refine U_istore (L2 := [.retAddr 0, .retAddr 0, .retAddr 0, .retAddr 0, .retAddr 0, .retAddr 0, .retAddr 0, .retAddr 0, .long v8, .retAddr 0, .long v10, .retAddr 0, .long v12, .retAddr 0, .long v14, .retAddr 0, .int (b2i (¬ ((v8 / v10) = (v12 / v14)))), .int v17, .retAddr 0, .retAddr 0]) dX12_isNoMore_44 (by decide) rfl ?_
      refine V_lload dX12_isNoMore_46 rfl ?_
      refine V_lload dX12_isNoMore_48 rfl ?_
      obtain ⟨hz2007, k⟩ := k
      refine V_ldiv dX12_isNoMore_50 hz2007 ?_
      refine V_lload dX12_isNoMore_51 rfl ?_
      refine V_lload dX12_isNoMore_53 rfl ?_
      obtain ⟨hz2008, k⟩ := k
      refine V_ldiv dX12_isNoMore_55 hz2008 ?_
      have key2009 : ∀ (y4010 : Int32), y4010 = (b2i (¬ ((v12 / v14) ≤ (v8 / v10)))) → V E mX12_isNoMore (kI SH P) 65 [.retAddr 0, .retAddr 0, .retAddr 0, .retAddr 0, .retAddr 0, .retAddr 0, .retAddr 0, .retAddr 0, .long v8, .retAddr 0, .long v10, .retAddr 0, .long v12, .retAddr 0, .long v14, .retAddr 0, .int (b2i (¬ ((v8 / v10) = (v12 / v14)))), .int v17, .retAddr 0, .retAddr 0] [.int y4010] (SH, I, J) (0, 0) := by
        intro y4010 ey4010
        subst ey4010
        refine U_istore (L2 := [.retAddr 0, .retAddr 0, .retAddr 0, .retAddr 0, .retAddr 0, .retAddr 0, .retAddr 0, .retAddr 0, .long v8, .retAddr 0, .long v10, .retAddr 0, .long v12, .retAddr 0, .long v14, .retAddr 0, .int (b2i (¬ ((v8 / v10) = (v12 / v14)))), .int (b2i (¬ ((v12 / v14) ≤ (v8 / v10)))), .retAddr 0, .retAddr 0]) dX12_isNoMore_65 (by decide) rfl ?_
        refine V_iload dX12_isNoMore_67 rfl ?_
        obtain ⟨hc6018, hc6019, k⟩ := k
        have key4011 : ∀ (y6014 : Int64) (y6015 : Int64) (y6016 : Int32) (y6017 : Int32), y6014 = (if (¬ ((v8 / v10) = (v12 / v14))) then v8 else (v8 - v8 / v10 * v10)) → y6015 = (if (¬ ((v8 / v10) = (v12 / v14))) then v12 else (v12 - v12 / v14 * v14)) → y6016 = (if (¬ ((v8 / v10) = (v12 / v14))) then (b2i (¬ ((v8 / v10) = (v12 / v14)))) else (if (v8 - v8 / v10 * v10) = (0 : Int64) then (1 : Int32) else (if ¬ (v12 - v12 / v14 * v14) = (0 : Int64) then (0 : Int32) else (1 : Int32)))) → y6017 = (if (¬ ((v8 / v10) = (v12 / v14))) then (b2i (¬ ((v12 / v14) ≤ (v8 / v10)))) else (if ¬ (v8 - v8 / v10 * v10) = (0 : Int64) then (0 : Int32) else (1 : Int32))) → V E mX12_isNoMore (kI SH P) 121 [.retAddr 0, .retAddr 0, .retAddr 0, .retAddr 0, .retAddr 0, .retAddr 0, .retAddr 0, .retAddr 0, .long y6014, .retAddr 0, .long v10, .retAddr 0, .long y6015, .retAddr 0, .long v14, .retAddr 0, .int y6016, .int y6017, .retAddr 0, .retAddr 0] [] (SH, I, J) (0, 0) := by
          intro y6014 y6015 y6016 y6017 ey6014 ey6015 ey6016 ey6017
          subst ey6014
          subst ey6015
          subst ey6016
          subst ey6017
          refine V_iload dX12_isNoMore_121 rfl ?_
          refine V_if_ne dX12_isNoMore_123 (fun c6020 => ?_) (fun c6020 => ?_)
          · have k := k.1 c6020
            exact k
          · have k := k.2 c6020
            refine V_lload dX12_isNoMore_126 rfl ?_
            refine U_lstore (L2 := [.retAddr 0, .retAddr 0, .retAddr 0, .retAddr 0, .retAddr 0, .retAddr 0, .retAddr 0, .retAddr 0, .long (if (¬ ((v8 / v10) = (v12 / v14))) then v8 else (v8 - v8 / v10 * v10)), .retAddr 0, .long v10, .retAddr 0, .long (if (¬ ((v8 / v10) = (v12 / v14))) then v12 else (v12 - v12 / v14 * v14)), .retAddr 0, .long v14, .retAddr 0, .int (if (¬ ((v8 / v10) = (v12 / v14))) then (b2i (¬ ((v8 / v10) = (v12 / v14)))) else (if (v8 - v8 / v10 * v10) = (0 : Int64) then (1 : Int32) else (if ¬ (v12 - v12 / v14 * v14) = (0 : Int64) then (0 : Int32) else (1 : Int32)))), .int (if (¬ ((v8 / v10) = (v12 / v14))) then (b2i (¬ ((v12 / v14) ≤ (v8 / v10)))) else (if ¬ (v8 - v8 / v10 * v10) = (0 : Int64) then (0 : Int32) else (1 : Int32))), .long (if (¬ ((v8 / v10) = (v12 / v14))) then v8 else (v8 - v8 / v10 * v10)), .retAddr 0]) dX12_isNoMore_128 (by decide) rfl ?_
            refine V_lload dX12_isNoMore_130 rfl ?_
            refine U_lstore (L2 := [.retAddr 0, .retAddr 0, .retAddr 0, .retAddr 0, .retAddr 0, .retAddr 0, .retAddr 0, .retAddr 0, .long v14, .retAddr 0, .long v10, .retAddr 0, .long (if (¬ ((v8 / v10) = (v12 / v14))) then v12 else (v12 - v12 / v14 * v14)), .retAddr 0, .long v14, .retAddr 0, .int (if (¬ ((v8 / v10) = (v12 / v14))) then (b2i (¬ ((v8 / v10) = (v12 / v14)))) else (if (v8 - v8 / v10 * v10) = (0 : Int64) then (1 : Int32) else (if ¬ (v12 - v12 / v14 * v14) = (0 : Int64) then (0 : Int32) else (1 : Int32)))), .int (if (¬ ((v8 / v10) = (v12 / v14))) then (b2i (¬ ((v12 / v14) ≤ (v8 / v10)))) else (if ¬ (v8 - v8 / v10 * v10) = (0 : Int64) then (0 : Int32) else (1 : Int32))), .long (if (¬ ((v8 / v10) = (v12 / v14))) then v8 else (v8 - v8 / v10 * v10)), .retAddr 0]) dX12_isNoMore_132 (by decide) rfl ?_
            refine V_lload dX12_isNoMore_134 rfl ?_
            refine U_lstore (L2 := [.retAddr 0, .retAddr 0, .retAddr 0, .retAddr 0, .retAddr 0, .retAddr 0, .retAddr 0, .retAddr 0, .long v14, .retAddr 0, .long v10, .retAddr 0, .long (if (¬ ((v8 / v10) = (v12 / v14))) then v12 else (v12 - v12 / v14 * v14)), .retAddr 0, .long (if (¬ ((v8 / v10) = (v12 / v14))) then v8 else (v8 - v8 / v10 * v10)), .retAddr 0, .int (if (¬ ((v8 / v10) = (v12 / v14))) then (b2i (¬ ((v8 / v10) = (v12 / v14)))) else (if (v8 - v8 / v10 * v10) = (0 : Int64) then (1 : Int32) else (if ¬ (v12 - v12 / v14 * v14) = (0 : Int64) then (0 : Int32) else (1 : Int32)))), .int (if (¬ ((v8 / v10) = (v12 / v14))) then (b2i (¬ ((v12 / v14) ≤ (v8 / v10)))) else (if ¬ (v8 - v8 / v10 * v10) = (0 : Int64) then (0 : Int32) else (1 : Int32))), .long (if (¬ ((v8 / v10) = (v12 / v14))) then v8 else (v8 - v8 / v10 * v10)), .retAddr 0]) dX12_isNoMore_136 (by decide) rfl ?_
            refine V_lload dX12_isNoMore_138 rfl ?_
            refine U_lstore (L2 := [.retAddr 0, .retAddr 0, .retAddr 0, .retAddr 0, .retAddr 0, .retAddr 0, .retAddr 0, .retAddr 0, .long v14, .retAddr 0, .long v10, .retAddr 0, .long (if (¬ ((v8 / v10) = (v12 / v14))) then v12 else (v12 - v12 / v14 * v14)), .retAddr 0, .long (if (¬ ((v8 / v10) = (v12 / v14))) then v8 else (v8 - v8 / v10 * v10)), .retAddr 0, .int (if (¬ ((v8 / v10) = (v12 / v14))) then (b2i (¬ ((v8 / v10) = (v12 / v14)))) else (if (v8 - v8 / v10 * v10) = (0 : Int64) then (1 : Int32) else (if ¬ (v12 - v12 / v14 * v14) = (0 : Int64) then (0 : Int32) else (1 : Int32)))), .int (if (¬ ((v8 / v10) = (v12 / v14))) then (b2i (¬ ((v12 / v14) ≤ (v8 / v10)))) else (if ¬ (v8 - v8 / v10 * v10) = (0 : Int64) then (0 : Int32) else (1 : Int32))), .long v10, .retAddr 0]) dX12_isNoMore_140 (by decide) rfl ?_
            refine V_lload dX12_isNoMore_142 rfl ?_
            refine U_lstore (L2 := [.retAddr 0, .retAddr 0, .retAddr 0, .retAddr 0, .retAddr 0, .retAddr 0, .retAddr 0, .retAddr 0, .long v14, .retAddr 0, .long (if (¬ ((v8 / v10) = (v12 / v14))) then v12 else (v12 - v12 / v14 * v14)), .retAddr 0, .long (if (¬ ((v8 / v10) = (v12 / v14))) then v12 else (v12 - v12 / v14 * v14)), .retAddr 0, .long (if (¬ ((v8 / v10) = (v12 / v14))) then v8 else (v8 - v8 / v10 * v10)), .retAddr 0, .int (if (¬ ((v8 / v10) = (v12 / v14))) then (b2i (¬ ((v8 / v10) = (v12 / v14)))) else (if (v8 - v8 / v10 * v10) = (0 : Int64) then (1 : Int32) else (if ¬ (v12 - v12 / v14 * v14) = (0 : Int64) then (0 : Int32) else (1 : Int32)))), .int (if (¬ ((v8 / v10) = (v12 / v14))) then (b2i (¬ ((v12 / v14) ≤ (v8 / v10)))) else (if ¬ (v8 - v8 / v10 * v10) = (0 : Int64) then (0 : Int32) else (1 : Int32))), .long v10, .retAddr 0]) dX12_isNoMore_144 (by decide) rfl ?_
            refine V_lload dX12_isNoMore_146 rfl ?_
            refine U_lstore (L2 := [.retAddr 0, .retAddr 0, .retAddr 0, .retAddr 0, .retAddr 0, .retAddr 0, .retAddr 0, .retAddr 0, .long v14, .retAddr 0, .long (if (¬ ((v8 / v10) = (v12 / v14))) then v12 else (v12 - v12 / v14 * v14)), .retAddr 0, .long v10, .retAddr 0, .long (if (¬ ((v8 / v10) = (v12 / v14))) then v8 else (v8 - v8 / v10 * v10)), .retAddr 0, .int (if (¬ ((v8 / v10) = (v12 / v14))) then (b2i (¬ ((v8 / v10) = (v12 / v14)))) else (if (v8 - v8 / v10 * v10) = (0 : Int64) then (1 : Int32) else (if ¬ (v12 - v12 / v14 * v14) = (0 : Int64) then (0 : Int32) else (1 : Int32)))), .int (if (¬ ((v8 / v10) = (v12 / v14))) then (b2i (¬ ((v12 / v14) ≤ (v8 / v10)))) else (if ¬ (v8 - v8 / v10 * v10) = (0 : Int64) then (0 : Int32) else (1 : Int32))), .long v10, .retAddr 0]) dX12_isNoMore_148 (by decide) rfl ?_
            refine V_goto dX12_isNoMore_150 ?_
            exact V_wk (wk_j (wk_j (wk_j (wk_j (wk_j (wk_j (wk_j (wk_j (wk_eq (wk_j (wk_eq (wk_j (wk_eq (wk_j (wk_eq (wk_j (wk_eq (wk_eq (wk_j (wk_j (wk_nil))))))))))))))))))))) k
        refine U_ifb_ne dX12_isNoMore_69 (fun c6021 => ?_) (fun c6021 => ?_)
        · exact key4011 _ _ _ _ (by rw [if_pos c6021]) (by rw [if_pos c6021]) (by rw [if_pos c6021]) (by rw [if_pos c6021])
        · refine V_lload dX12_isNoMore_72 rfl ?_
          refine V_lload dX12_isNoMore_74 rfl ?_
          have hz6012 := hc6018 c6021
          refine V_lrem dX12_isNoMore_76 hz6012 ?_
          refine U_lstore (L2 := [.retAddr 0, .retAddr 0, .retAddr 0, .retAddr 0, .retAddr 0, .retAddr 0, .retAddr 0, .retAddr 0, .long (v8 - v8 / v10 * v10), .retAddr 0, .long v10, .retAddr 0, .long v12, .retAddr 0, .long v14, .retAddr 0, .int (b2i (¬ ((v8 / v10) = (v12 / v14)))), .int (b2i (¬ ((v12 / v14) ≤ (v8 / v10)))), .retAddr 0, .retAddr 0]) dX12_isNoMore_77 (by decide) rfl ?_
          refine V_lload dX12_isNoMore_79 rfl ?_
          refine V_lload dX12_isNoMore_81 rfl ?_
          have hz6013 := hc6019 c6021
          refine V_lrem dX12_isNoMore_83 hz6013 ?_
          refine U_lstore (L2 := [.retAddr 0, .retAddr 0, .retAddr 0, .retAddr 0, .retAddr 0, .retAddr 0, .retAddr 0, .retAddr 0, .long (v8 - v8 / v10 * v10), .retAddr 0, .long v10, .retAddr 0, .long (v12 - v12 / v14 * v14), .retAddr 0, .long v14, .retAddr 0, .int (b2i (¬ ((v8 / v10) = (v12 / v14)))), .int (b2i (¬ ((v12 / v14) ≤ (v8 / v10)))), .retAddr 0, .retAddr 0]) dX12_isNoMore_84 (by decide) rfl ?_
          refine V_lload dX12_isNoMore_86 rfl ?_
          refine V_lconst (v := (0 : Int64)) dX12_isNoMore_88 rfl ?_
          refine U_lcmp_eq dX12_isNoMore_89 dX12_isNoMore_90 (fun c6022 => ?_) (fun c6022 => ?_)
          · refine V_iconst (v := (1 : Int32)) dX12_isNoMore_100 rfl ?_
            refine V_goto dX12_isNoMore_101 ?_
            refine U_istore (L2 := [.retAddr 0, .retAddr 0, .retAddr 0, .retAddr 0, .retAddr 0, .retAddr 0, .retAddr 0, .retAddr 0, .long (v8 - v8 / v10 * v10), .retAddr 0, .long v10, .retAddr 0, .long (v12 - v12 / v14 * v14), .retAddr 0, .long v14, .retAddr 0, .int (1 : Int32), .int (b2i (¬ ((v12 / v14) ≤ (v8 / v10)))), .retAddr 0, .retAddr 0]) dX12_isNoMore_105 (by decide) rfl ?_
            refine V_lload dX12_isNoMore_107 rfl ?_
            refine V_lconst (v := (0 : Int64)) dX12_isNoMore_109 rfl ?_
            refine U_lcmp_ne dX12_isNoMore_110 dX12_isNoMore_111 (fun c6023 => ?_) (fun c6023 => ?_)
            · refine V_iconst (v := (0 : Int32)) dX12_isNoMore_118 rfl ?_
              refine U_istore (L2 := [.retAddr 0, .retAddr 0, .retAddr 0, .retAddr 0, .retAddr 0, .retAddr 0, .retAddr 0, .retAddr 0, .long (v8 - v8 / v10 * v10), .retAddr 0, .long v10, .retAddr 0, .long (v12 - v12 / v14 * v14), .retAddr 0, .long v14, .retAddr 0, .int (1 : Int32), .int (0 : Int32), .retAddr 0, .retAddr 0]) dX12_isNoMore_119 (by decide) rfl ?_
              exact key4011 _ _ _ _ (by rw [if_neg c6021]) (by rw [if_neg c6021]) (by rw [if_neg c6021, if_pos c6022]) (by rw [if_neg c6021, if_pos c6023])
            · refine V_iconst (v := (1 : Int32)) dX12_isNoMore_114 rfl ?_
              refine V_goto dX12_isNoMore_115 ?_
              refine U_istore (L2 := [.retAddr 0, .retAddr 0, .retAddr 0, .retAddr 0, .retAddr 0, .retAddr 0, .retAddr 0, .retAddr 0, .long (v8 - v8 / v10 * v10), .retAddr 0, .long v10, .retAddr 0, .long (v12 - v12 / v14 * v14), .retAddr 0, .long v14, .retAddr 0, .int (1 : Int32), .int (1 : Int32), .retAddr 0, .retAddr 0]) dX12_isNoMore_119 (by decide) rfl ?_
              exact key4011 _ _ _ _ (by rw [if_neg c6021]) (by rw [if_neg c6021]) (by rw [if_neg c6021, if_pos c6022]) (by rw [if_neg c6021, if_neg c6023])
          · refine V_lload dX12_isNoMore_93 rfl ?_
            refine V_lconst (v := (0 : Int64)) dX12_isNoMore_95 rfl ?_
            refine U_lcmp_ne dX12_isNoMore_96 dX12_isNoMore_97 (fun c6024 => ?_) (fun c6024 => ?_)
            · refine V_iconst (v := (0 : Int32)) dX12_isNoMore_104 rfl ?_
              refine U_istore (L2 := [.retAddr 0, .retAddr 0, .retAddr 0, .retAddr 0, .retAddr 0, .retAddr 0, .retAddr 0, .retAddr 0, .long (v8 - v8 / v10 * v10), .retAddr 0, .long v10, .retAddr 0, .long (v12 - v12 / v14 * v14), .retAddr 0, .long v14, .retAddr 0, .int (0 : Int32), .int (b2i (¬ ((v12 / v14) ≤ (v8 / v10)))), .retAddr 0, .retAddr 0]) dX12_isNoMore_105 (by decide) rfl ?_
              refine V_lload dX12_isNoMore_107 rfl ?_
              refine V_lconst (v := (0 : Int64)) dX12_isNoMore_109 rfl ?_
              refine U_lcmp_ne dX12_isNoMore_110 dX12_isNoMore_111 (fun c6025 => ?_) (fun c6025 => ?_)
              · refine V_iconst (v := (0 : Int32)) dX12_isNoMore_118 rfl ?_
                refine U_istore (L2 := [.retAddr 0, .retAddr 0, .retAddr 0, .retAddr 0, .retAddr 0, .retAddr 0, .retAddr 0, .retAddr 0, .long (v8 - v8 / v10 * v10), .retAddr 0, .long v10, .retAddr 0, .long (v12 - v12 / v14 * v14), .retAddr 0, .long v14, .retAddr 0, .int (0 : Int32), .int (0 : Int32), .retAddr 0, .retAddr 0]) dX12_isNoMore_119 (by decide) rfl ?_
                exact key4011 _ _ _ _ (by rw [if_neg c6021]) (by rw [if_neg c6021]) (by rw [if_neg c6021, if_neg c6022, if_pos c6024]) (by rw [if_neg c6021, if_pos c6025])
              · refine V_iconst (v := (1 : Int32)) dX12_isNoMore_114 rfl ?_
                refine V_goto dX12_isNoMore_115 ?_
                refine U_istore (L2 := [.retAddr 0, .retAddr 0, .retAddr 0, .retAddr 0, .retAddr 0, .retAddr 0, .retAddr 0, .retAddr 0, .long (v8 - v8 / v10 * v10), .retAddr 0, .long v10, .retAddr 0, .long (v12 - v12 / v14 * v14), .retAddr 0, .long v14, .retAddr 0, .int (0 : Int32), .int (1 : Int32), .retAddr 0, .retAddr 0]) dX12_isNoMore_119 (by decide) rfl ?_
                exact key4011 _ _ _ _ (by rw [if_neg c6021]) (by rw [if_neg c6021]) (by rw [if_neg c6021, if_neg c6022, if_pos c6024]) (by rw [if_neg c6021, if_neg c6025])
            · refine V_iconst (v := (1 : Int32)) dX12_isNoMore_100 rfl ?_
              refine V_goto dX12_isNoMore_101 ?_
              refine U_istore (L2 := [.retAddr 0, .retAddr 0, .retAddr 0, .retAddr 0, .retAddr 0, .retAddr 0, .retAddr 0, .retAddr 0, .long (v8 - v8 / v10 * v10), .retAddr 0, .long v10, .retAddr 0, .long (v12 - v12 / v14 * v14), .retAddr 0, .long v14, .retAddr 0, .int (1 : Int32), .int (b2i (¬ ((v12 / v14) ≤ (v8 / v10)))), .retAddr 0, .retAddr 0]) dX12_isNoMore_105 (by decide) rfl ?_
              refine V_lload dX12_isNoMore_107 rfl ?_
              refine V_lconst (v := (0 : Int64)) dX12_isNoMore_109 rfl ?_
              refine U_lcmp_ne dX12_isNoMore_110 dX12_isNoMore_111 (fun c6026 => ?_) (fun c6026 => ?_)
              · refine V_iconst (v := (0 : Int32)) dX12_isNoMore_118 rfl ?_
                refine U_istore (L2 := [.retAddr 0, .retAddr 0, .retAddr 0, .retAddr 0, .retAddr 0, .retAddr 0, .retAddr 0, .retAddr 0, .long (v8 - v8 / v10 * v10), .retAddr 0, .long v10, .retAddr 0, .long (v12 - v12 / v14 * v14), .retAddr 0, .long v14, .retAddr 0, .int (1 : Int32), .int (0 : Int32), .retAddr 0, .retAddr 0]) dX12_isNoMore_119 (by decide) rfl ?_
                exact key4011 _ _ _ _ (by rw [if_neg c6021]) (by rw [if_neg c6021]) (by rw [if_neg c6021, if_neg c6022, if_neg c6024]) (by rw [if_neg c6021, if_pos c6026])
              · refine V_iconst (v := (1 : Int32)) dX12_isNoMore_114 rfl ?_
                refine V_goto dX12_isNoMore_115 ?_
                refine U_istore (L2 := [.retAddr 0, .retAddr 0, .retAddr 0, .retAddr 0, .retAddr 0, .retAddr 0, .retAddr 0, .retAddr 0, .long (v8 - v8 / v10 * v10), .retAddr 0, .long v10, .retAddr 0, .long (v12 - v12 / v14 * v14), .retAddr 0, .long v14, .retAddr 0, .int (1 : Int32), .int (1 : Int32), .retAddr 0, .retAddr 0]) dX12_isNoMore_119 (by decide) rfl ?_
                exact key4011 _ _ _ _ (by rw [if_neg c6021]) (by rw [if_neg c6021]) (by rw [if_neg c6021, if_neg c6022, if_neg c6024]) (by rw [if_neg c6021, if_neg c6026])
      refine U_lcmp_ge dX12_isNoMore_56 dX12_isNoMore_57 (fun c6027 => ?_) (fun c6027 => ?_)
      · refine V_iconst (v := (0 : Int32)) dX12_isNoMore_64 rfl ?_
        exact key2009 _ ((b2i_0.mpr (fun q => q c6027)).symm)
      · refine V_iconst (v := (1 : Int32)) dX12_isNoMore_60 rfl ?_
        refine V_goto dX12_isNoMore_61 ?_
        exact key2009 _ ((b2i_1.mpr (c6027)).symm)
    refine U_lcmp_eq dX12_isNoMore_35 dX12_isNoMore_36 (fun c6028 => ?_) (fun c6028 => ?_)
    · refine V_iconst (v := (0 : Int32)) dX12_isNoMore_43 rfl ?_
      exact key5 _ ((b2i_0.mpr (fun q => q c6028)).symm)
    · refine V_iconst (v := (1 : Int32)) dX12_isNoMore_39 rfl ?_
      refine V_goto dX12_isNoMore_40 ?_
      exact key5 _ ((b2i_1.mpr (c6028)).symm)
theorem fr_lt {a b c d : Nat} (hb : 0 < b) (hd : 0 < d) (h : a / b < c / d) : a * d < c * b := by
  have h1 : a < b * (a / b + 1) := Nat.lt_mul_div_succ a hb
  have h2 : d * (c / d) ≤ c := Nat.mul_div_le c d
  calc a * d < b * (a / b + 1) * d := Nat.mul_lt_mul_of_pos_right h1 hd
    _ ≤ b * (c / d) * d := Nat.mul_le_mul_right d (Nat.mul_le_mul_left b h)
    _ = (d * (c / d)) * b := by rw [Nat.mul_comm d (c / d), Nat.mul_assoc, Nat.mul_comm b]
    _ ≤ c * b := Nat.mul_le_mul_right b h2
theorem fr_eq {a b c d : Nat} (h : a / b = c / d) : a * d ≤ c * b ↔ (a % b) * d ≤ (c % d) * b := by
  have h1 := Nat.div_add_mod a b
  have h2 := Nat.div_add_mod c d
  have e1 : a * d = b * (a / b) * d + (a % b) * d := by rw [← Nat.add_mul, h1]
  have e2 : c * b = d * (c / d) * b + (c % d) * b := by rw [← Nat.add_mul, h2]
  have e3 : d * (c / d) * b = b * (a / b) * d := by rw [← h, Nat.mul_comm (d * (a / b)) b, Nat.mul_comm d (a / b), ← Nat.mul_assoc]
  rw [e1, e2, e3]
  omega
theorem nm_fin {E : aE} {P : Int32 → hI_ → hJ_ → Prop} {I : hI_} {J : hJ_} {a b c d : Int64} {v17 : Int32} (hv : v17 = 0 ∨ v17 = 1) (k : P v17 I J) : HX12_isNoMore_20 E P a b c d 1 v17 I J := wX12_isNoMore_20 ⟨fun _ => ⟨hv, k⟩, fun z => absurd z (by decide)⟩
theorem nm_loop {E : aE} {P : Int32 → hI_ → hJ_ → Prop} {I : hI_} {J : hJ_} : ∀ (N a b c d : Nat) (x : Int32), b + d ≤ N → 0 < b → 0 < d → a < 2 ^ 63 → b < 2 ^ 63 → c < 2 ^ 63 → d < 2 ^ 63 → P (b2i (a * d ≤ c * b)) I J → HX12_isNoMore_20 E P (lN a) (lN b) (lN c) (lN d) 0 x I J
  | 0, a, b, c, d, x, hN, hb, hd, _, _, _, _, k => by omega
  | N + 1, a, b, c, d, x, hN, hb, hd, la, lb, lc, ld, k => by
    have zb : ¬ lN b = 0 := fun z => by have := (pk_lEQ (b := 0) lb (by omega)).mp z; omega
    have zd : ¬ lN d = 0 := fun z => by have := (pk_lEQ (b := 0) ld (by omega)).mp z; omega
    have q1 := Nat.div_le_self a b
    have q2 := Nat.div_le_self c d
    have m1 := Nat.mod_lt a hb
    have m2 := Nat.mod_lt c hd
    have eq : (lN (a / b) = lN (c / d)) ↔ a / b = c / d := pk_lEQ (by omega) (by omega)
    have le : (lN (c / d) ≤ lN (a / b)) ↔ c / d ≤ a / b := pk_lLE (by omega) (by omega)
    have e1 : (lN (a % b) = 0) ↔ a % b = 0 := pk_lEQ (b := 0) (by omega) (by omega)
    have e2 : (lN (c % d) = 0) ↔ c % d = 0 := pk_lEQ (b := 0) (by omega) (by omega)
    refine wX12_isNoMore_20 ⟨fun z => absurd rfl z, fun _ => ?_⟩
    rw [pk_lRem la hb lb, pk_lRem lc hd ld, pk_lDiv la hb lb, pk_lDiv lc hd ld]
    refine ⟨zb, zd, zb, zd, fun _ => zb, fun _ => zd, ?_⟩
    by_cases c1 : a / b = c / d
    · have n1 : ¬ ¬ lN (a / b) = lN (c / d) := fun z => z (eq.mpr c1)
      rw [if_neg n1, if_neg n1, if_neg n1, if_neg n1]
      have fe := fr_eq c1
      by_cases c2 : a % b = 0
      · have n2 := e1.mpr c2
        rw [if_pos n2, if_neg (fun z => z n2)]
        refine ⟨fun _ => nm_fin (Or.inr rfl) ?_, fun z => absurd z (by decide)⟩
        have : b2i (a * d ≤ c * b) = 1 := if_pos (fe.mpr (by rw [c2, Nat.zero_mul]; exact Nat.zero_le _))
        rw [this] at k; exact k
      · have n2 : ¬ lN (a % b) = 0 := fun z => c2 (e1.mp z)
        rw [if_neg n2, if_pos n2]
        by_cases c3 : c % d = 0
        · have n3 := e2.mpr c3
          rw [if_neg (fun z => z n3)]
          refine ⟨fun _ => nm_fin (Or.inl rfl) ?_, fun z => absurd z (by decide)⟩
          have : b2i (a * d ≤ c * b) = 0 := if_neg (fun z => by
            have := fe.mp z
            rw [c3, Nat.zero_mul] at this
            have := Nat.mul_pos (show 0 < a % b by omega) hd
            omega)
          rw [this] at k; exact k
        · have n3 : ¬ lN (c % d) = 0 := fun z => c3 (e2.mp z)
          rw [if_pos n3]
          refine ⟨fun z => absurd rfl z, fun _ => ?_⟩
          refine nm_loop N d (c % d) b (a % b) _ (by omega) (by omega) (by omega) ld (by omega) lb (by omega) ?_
          have : b2i (a * d ≤ c * b) = b2i (d * (a % b) ≤ b * (c % d)) := by
            unfold b2i
            rw [Nat.mul_comm d, Nat.mul_comm b (c % d)]
            by_cases w : a * d ≤ c * b
            · rw [if_pos w, if_pos (fe.mp w)]
            · rw [if_neg w, if_neg (fun y => w (fe.mpr y))]
          rw [this] at k; exact k
    · have n1 : ¬ lN (a / b) = lN (c / d) := fun z => c1 (eq.mp z)
      rw [if_pos n1, if_pos n1, if_pos n1, if_pos n1, show b2i (¬ lN (a / b) = lN (c / d)) = 1 from if_pos n1]
      refine ⟨fun _ => ?_, fun z => absurd z (by decide)⟩
      have : b2i (¬ lN (c / d) ≤ lN (a / b)) = b2i (a * d ≤ c * b) := by
        unfold b2i
        by_cases w : c / d ≤ a / b
        · have := fr_lt (a := c) (b := d) (c := a) (d := b) hd hb (by omega)
          rw [if_neg (fun z => z (le.mpr w)), if_neg (by omega)]
        · have := fr_lt (a := a) (b := b) (c := c) (d := d) hb hd (by omega)
          rw [if_pos (fun z => w (le.mp z)), if_pos (by omega)]
      rw [this]
      refine nm_fin ?_ k
      unfold b2i
      by_cases w : a * d ≤ c * b
      · right; exact if_pos w
      · left; exact if_neg w
def HX11_wide_34 (E : aE) (P : Int32 → hI_ → hJ_ → Prop) (v1 : Int32) (v2 : Int32) (v3 : Int32) (v4 : Int32) (I : hI_) (J : hJ_) : Prop := V E mX11_wide (kI SH P) 34 [.ref 0, .int v1, .int v2, .int v3, .int v4] [] (SH, I, J) (0, 0)
set_option maxHeartbeats 4000000 in
set_option maxRecDepth 20000 in
theorem wX11_wide {E : aE} {P : Int32 → hI_ → hJ_ → Prop} {I : hI_} {J : hJ_} {a0 : Int32} {a1 : Int32} {a2 : Int32} (k : ((¬ (0 ≤ a0 ∧ a0 ≤ 12) → P (-1 : Int32) I J) ∧ ((0 ≤ a0 ∧ a0 ≤ 12) → ((¬ ((0 : Int32) ≤ a1 ∧ a1 ≤ (999 : Int32)) → P (-1 : Int32) I J) ∧ (((0 : Int32) ≤ a1 ∧ a1 ≤ (999 : Int32)) → ((((1 : Int32) ≤ a2 ∧ a2 ≤ (999 : Int32)) → HX11_wide_34 E P a0 a1 a2 (0 : Int32) I J) ∧ (¬ (((1 : Int32) ≤ a2 ∧ a2 ≤ (999 : Int32))) → P (-1 : Int32) I J))))))) : CallI E mX11_wide [.ref 0, .int a0, .int a1, .int a2] SH I J P := by
  refine Call_of (L := [.ref 0, .int a0, .int a1, .int a2, .retAddr 0]) ok_X11_wide.1 rfl rfl ?_
  refine V_iload_n dX11_wide_0 rfl ?_
  refine U_callS1 [.int a0] dX11_wide_1 os_X11_287 ⟨rfl, rfl, rfl⟩ rfl rfl rfl (tX11_isAge ?_)
  refine U_ifb_eq dX11_wide_4 (fun c1 => ?_) (fun c1 => ?_)
  · have k := k.1 c1
    refine V_iconst (v := (-1 : Int32)) dX11_wide_29 rfl ?_
    exact V_iret dX11_wide_30 ⟨_, rfl, rfl⟩ rfl rfl ⟨_, _, _, rfl, rfl, k⟩
  · have k := k.2 c1
    refine V_iload_n dX11_wide_7 rfl ?_
    refine V_iconst (v := (0 : Int32)) dX11_wide_8 rfl ?_
    refine V_sipush (v := (999 : Int32)) dX11_wide_9 rfl ?_
    refine U_callS1 [.int a1, .int (0 : Int32), .int (999 : Int32)] dX11_wide_12 os_X11_104 ⟨rfl, rfl, rfl⟩ rfl rfl rfl (tX11_within ?_)
    refine U_ifb_eq dX11_wide_15 (fun c2 => ?_) (fun c2 => ?_)
    · have k := k.1 c2
      refine V_iconst (v := (-1 : Int32)) dX11_wide_29 rfl ?_
      exact V_iret dX11_wide_30 ⟨_, rfl, rfl⟩ rfl rfl ⟨_, _, _, rfl, rfl, k⟩
    · have k := k.2 c2
      refine V_iload_n dX11_wide_18 rfl ?_
      refine V_iconst (v := (1 : Int32)) dX11_wide_19 rfl ?_
      refine V_sipush (v := (999 : Int32)) dX11_wide_20 rfl ?_
      refine U_callS1 [.int a2, .int (1 : Int32), .int (999 : Int32)] dX11_wide_23 os_X11_104 ⟨rfl, rfl, rfl⟩ rfl rfl rfl (tX11_within ?_)
      refine U_ifb_ne dX11_wide_26 (fun c3 => ?_) (fun c3 => ?_)
      · have k := k.1 c3
        refine V_iconst (v := (0 : Int32)) dX11_wide_31 rfl ?_
        refine U_istore (L2 := [.ref 0, .int a0, .int a1, .int a2, .int (0 : Int32)]) dX11_wide_32 (by decide) rfl ?_
        exact k
      · have k := k.2 c3
        refine V_iconst (v := (-1 : Int32)) dX11_wide_29 rfl ?_
        exact V_iret dX11_wide_30 ⟨_, rfl, rfl⟩ rfl rfl ⟨_, _, _, rfl, rfl, k⟩
set_option maxHeartbeats 4000000 in
set_option maxRecDepth 20000 in
theorem wX11_wide_34 {E : aE} {P : Int32 → hI_ → hJ_ → Prop} {I : hI_} {J : hJ_} {v1 : Int32} {v2 : Int32} {v3 : Int32} {v4 : Int32} (k : (((12 : Int32) < v4 → P (-4 : Int32) I J) ∧ (¬ ((12 : Int32) < v4) → CallJ E mX10_lossSum [.ref 42, .int v1, .int v4] SH I J (fun x2 I3 J4 => CallJ E mX10_power [.ref 42, .int v1] SH I3 J4 (fun x5 I6 J7 => (((x5 * v2.toInt64) < (x2 * v3.toInt64) → HX11_wide_34 E P v1 v2 v3 (v4 + (1 : Int32)) I6 J7) ∧ (¬ ((x5 * v2.toInt64) < (x2 * v3.toInt64)) → P v4 I6 J7))))))) : HX11_wide_34 E P v1 v2 v3 v4 I J := by
  show V E mX11_wide (kI SH P) 34 [.ref 0, .int v1, .int v2, .int v3, .int v4] [] (SH, I, J) (0, 0)
  refine V_iload dX11_wide_34 rfl ?_
  refine V_bipush (v := (12 : Int32)) dX11_wide_36 rfl ?_
  refine V_icmp_gt dX11_wide_38 (fun c1 => ?_) (fun c1 => ?_)
  · have k := k.1 c1
    refine V_bipush (v := (-4 : Int32)) dX11_wide_78 rfl ?_
    exact V_iret dX11_wide_80 ⟨_, rfl, rfl⟩ rfl rfl ⟨_, _, _, rfl, rfl, k⟩
  · have k := k.2 c1
    refine V_aload_n dX11_wide_41 rfl ?_
    refine U_getR dX11_wide_42 fl_X11_85 s_0 rfl ?_
    refine V_iload_n dX11_wide_45 rfl ?_
    refine V_iload dX11_wide_46 rfl ?_
    refine U_callV2 [.int v1, .int v4] dX11_wide_48 ov_X11_307 s_42 rfl ⟨rfl, rfl, rfl⟩ rfl rfl rfl (CallJ_mono k (fun x2 I3 J4 k => ?_))
    refine V_iload_n dX11_wide_51 rfl ?_
    refine V_i2l dX11_wide_52 ?_
    refine V_lmul dX11_wide_53 ?_
    refine V_aload_n dX11_wide_54 rfl ?_
    refine U_getR dX11_wide_55 fl_X11_85 s_0 rfl ?_
    refine V_iload_n dX11_wide_58 rfl ?_
    refine U_callV2 [.int v1] dX11_wide_59 ov_X11_299 s_42 rfl ⟨rfl, rfl, rfl⟩ rfl rfl rfl (CallJ_mono k (fun x5 I6 J7 k => ?_))
    refine V_iload_n dX11_wide_62 rfl ?_
    refine V_i2l dX11_wide_63 ?_
    refine V_lmul dX11_wide_64 ?_
    refine U_lcmp_gt dX11_wide_65 dX11_wide_66 (fun c8 => ?_) (fun c8 => ?_)
    · have k := k.1 c8
      refine U_iinc (v := v4 + (1 : Int32)) (L2 := [.ref 0, .int v1, .int v2, .int v3, .int (v4 + (1 : Int32))]) dX11_wide_72 (by decide) rfl rfl rfl ?_
      refine V_goto dX11_wide_75 ?_
      exact k
    · have k := k.2 c8
      refine V_iload dX11_wide_69 rfl ?_
      exact V_iret dX11_wide_71 ⟨_, rfl, rfl⟩ rfl rfl ⟨_, _, _, rfl, rfl, k⟩
def HX12_wide_41 (E : aE) (P : Int32 → hI_ → hJ_ → Prop) (v1 : Int32) (v2 : Int32) (v3 : Int32) (v4 : Int32) (I : hI_) (J : hJ_) : Prop := V E mX12_wide (kI SH P) 41 [.ref 68, .int v1, .int v2, .int v3, .int v4, .retAddr 0, .retAddr 0] [] (SH, I, J) (0, 0)
set_option maxHeartbeats 4000000 in
set_option maxRecDepth 20000 in
theorem wX12_wide {E : aE} {P : Int32 → hI_ → hJ_ → Prop} {I : hI_} {J : hJ_} {a0 : Int32} {a1 : Int32} {a2 : Int32} (k : ((¬ ((0 : Int32) ≤ a0 ∧ a0 ≤ (12 : Int32)) → P (-1 : Int32) I J) ∧ (((0 : Int32) ≤ a0 ∧ a0 ≤ (12 : Int32)) → ((¬ ((0 : Int32) ≤ a1 ∧ a1 ≤ (999 : Int32)) → P (-1 : Int32) I J) ∧ (((0 : Int32) ≤ a1 ∧ a1 ≤ (999 : Int32)) → ((((1 : Int32) ≤ a2 ∧ a2 ≤ (999 : Int32)) → HX12_wide_41 E P a0 a1 a2 (0 : Int32) I J) ∧ (¬ (((1 : Int32) ≤ a2 ∧ a2 ≤ (999 : Int32))) → P (-1 : Int32) I J))))))) : CallI E mX12_wide [.ref 68, .int a0, .int a1, .int a2] SH I J P := by
  refine Call_of (L := [.ref 68, .int a0, .int a1, .int a2, .retAddr 0, .retAddr 0, .retAddr 0]) ok_X12_wide.1 rfl rfl ?_
  refine V_iload_n dX12_wide_0 rfl ?_
  refine V_i2l dX12_wide_1 ?_
  refine V_lconst (v := (0 : Int64)) dX12_wide_2 rfl ?_
  refine V_ldc2_w (v := (12 : Int64)) dX12_wide_3 (gt_6 221 rfl rfl) ?_
  refine U_callS1 [.long a0.toInt64, .long (0 : Int64), .long (12 : Int64)] dX12_wide_6 os_X12_91 ⟨rfl, rfl, rfl⟩ rfl rfl rfl (tX12_in32 (v := a0) (lo := (0 : Int32)) (hi := (12 : Int32)) rfl (by decide) (by decide) ?_)
  refine U_ifb_eq dX12_wide_9 (fun c1 => ?_) (fun c1 => ?_)
  · have k := k.1 c1
    refine V_iconst (v := (-1 : Int32)) dX12_wide_36 rfl ?_
    exact V_iret dX12_wide_37 ⟨_, rfl, rfl⟩ rfl rfl ⟨_, _, _, rfl, rfl, k⟩
  · have k := k.2 c1
    refine V_iload_n dX12_wide_12 rfl ?_
    refine V_i2l dX12_wide_13 ?_
    refine V_lconst (v := (0 : Int64)) dX12_wide_14 rfl ?_
    refine V_ldc2_w (v := (999 : Int64)) dX12_wide_15 (gt_6 19 rfl rfl) ?_
    refine U_callS1 [.long a1.toInt64, .long (0 : Int64), .long (999 : Int64)] dX12_wide_18 os_X12_91 ⟨rfl, rfl, rfl⟩ rfl rfl rfl (tX12_in32 (v := a1) (lo := (0 : Int32)) (hi := (999 : Int32)) rfl (by decide) (by decide) ?_)
    refine U_ifb_eq dX12_wide_21 (fun c2 => ?_) (fun c2 => ?_)
    · have k := k.1 c2
      refine V_iconst (v := (-1 : Int32)) dX12_wide_36 rfl ?_
      exact V_iret dX12_wide_37 ⟨_, rfl, rfl⟩ rfl rfl ⟨_, _, _, rfl, rfl, k⟩
    · have k := k.2 c2
      refine V_iload_n dX12_wide_24 rfl ?_
      refine V_i2l dX12_wide_25 ?_
      refine V_lconst (v := (1 : Int64)) dX12_wide_26 rfl ?_
      refine V_ldc2_w (v := (999 : Int64)) dX12_wide_27 (gt_6 19 rfl rfl) ?_
      refine U_callS1 [.long a2.toInt64, .long (1 : Int64), .long (999 : Int64)] dX12_wide_30 os_X12_91 ⟨rfl, rfl, rfl⟩ rfl rfl rfl (tX12_in32 (v := a2) (lo := (1 : Int32)) (hi := (999 : Int32)) rfl (by decide) (by decide) ?_)
      refine U_ifb_ne dX12_wide_33 (fun c3 => ?_) (fun c3 => ?_)
      · have k := k.1 c3
        refine V_iconst (v := (0 : Int32)) dX12_wide_38 rfl ?_
        refine U_istore (L2 := [.ref 68, .int a0, .int a1, .int a2, .int (0 : Int32), .retAddr 0, .retAddr 0]) dX12_wide_39 (by decide) rfl ?_
        exact k
      · have k := k.2 c3
        refine V_iconst (v := (-1 : Int32)) dX12_wide_36 rfl ?_
        exact V_iret dX12_wide_37 ⟨_, rfl, rfl⟩ rfl rfl ⟨_, _, _, rfl, rfl, k⟩
set_option maxHeartbeats 4000000 in
set_option maxRecDepth 20000 in
theorem wX12_wide_41 {E : aE} {P : Int32 → hI_ → hJ_ → Prop} {I : hI_} {J : hJ_} {v1 : Int32} {v2 : Int32} {v3 : Int32} {v4 : Int32} (k : (((12 : Int32) < v4 → P (-4 : Int32) I J) ∧ (¬ ((12 : Int32) < v4) → CallJ E mX12_lossOf [.ref 68, .int v1, .int v4] SH I J (fun x2 I3 J4 => CallI E mX12_isNoMore [.long x2, .long (J4 68 32), .long v2.toInt64, .long v3.toInt64] SH I3 J4 (fun x5 I6 J7 => ((x5 = (0 : Int32) → HX12_wide_41 E P v1 v2 v3 (v4 + (1 : Int32)) I6 J7) ∧ (¬ (x5 = (0 : Int32)) → P v4 I6 J7))))))) : HX12_wide_41 E P v1 v2 v3 v4 I J := by
  show V E mX12_wide (kI SH P) 41 [.ref 68, .int v1, .int v2, .int v3, .int v4, .retAddr 0, .retAddr 0] [] (SH, I, J) (0, 0)
  refine V_iload dX12_wide_41 rfl ?_
  refine V_bipush (v := (12 : Int32)) dX12_wide_43 rfl ?_
  refine V_icmp_gt dX12_wide_45 (fun c1 => ?_) (fun c1 => ?_)
  · have k := k.1 c1
    refine V_bipush (v := (-4 : Int32)) dX12_wide_82 rfl ?_
    exact V_iret dX12_wide_84 ⟨_, rfl, rfl⟩ rfl rfl ⟨_, _, _, rfl, rfl, k⟩
  · have k := k.2 c1
    refine V_aload_n dX12_wide_48 rfl ?_
    refine V_iload_n dX12_wide_49 rfl ?_
    refine V_iload dX12_wide_50 rfl ?_
    refine U_callV2 [.int v1, .int v4] dX12_wide_52 ov_X12_295 s_68 rfl ⟨rfl, rfl, rfl⟩ rfl rfl rfl (CallJ_mono k (fun x2 I3 J4 k => ?_))
    refine U_lstore (L2 := [.ref 68, .int v1, .int v2, .int v3, .int v4, .long x2, .retAddr 0]) dX12_wide_55 (by decide) rfl ?_
    refine V_lload dX12_wide_57 rfl ?_
    refine V_aload_n dX12_wide_59 rfl ?_
    refine U_getJ dX12_wide_60 fl_X12_278 s_68 rfl ?_
    refine V_iload_n dX12_wide_63 rfl ?_
    refine V_i2l dX12_wide_64 ?_
    refine V_iload_n dX12_wide_65 rfl ?_
    refine V_i2l dX12_wide_66 ?_
    refine U_callS1 [.long x2, .long (J4 68 32), .long v2.toInt64, .long v3.toInt64] dX12_wide_67 os_X12_299 ⟨rfl, rfl, rfl⟩ rfl rfl rfl (CallI_mono k (fun x5 I6 J7 k => ?_))
    refine V_if_eq dX12_wide_70 (fun c8 => ?_) (fun c8 => ?_)
    · have k := k.1 c8
      refine U_iinc (v := v4 + (1 : Int32)) (L2 := [.ref 68, .int v1, .int v2, .int v3, .int (v4 + (1 : Int32)), .long x2, .retAddr 0]) dX12_wide_76 (by decide) rfl rfl rfl ?_
      refine V_goto dX12_wide_79 ?_
      exact V_wk (wk_eq (wk_eq (wk_eq (wk_eq (wk_eq (wk_j (wk_j (wk_nil)))))))) k
    · have k := k.2 c8
      refine V_iload dX12_wide_73 rfl ?_
      exact V_iret dX12_wide_75 ⟨_, rfl, rfl⟩ rfl rfl ⟨_, _, _, rfl, rfl, k⟩
def wdR (I : hI_) (n a b : Nat) : Nat → Nat → Int32
  | 0, _ => -4
  | m + 1, w => if lsN I n w 25 * b ≤ mS I ^ n * a then nI w else wdR I n a b m (w + 1)
theorem wideX_loop {E : aE} {P : Int32 → hI_ → hJ_ → Prop} {I : hI_} {n a b : Nat} {r : Int32} (h : Rel I) (hn : n ≤ 12) (ha : a ≤ 999) (hb : b ≤ 999) (k : ∀ J2, P r I J2) : ∀ (m w : Nat) (J : hJ_), w + m = 13 → r = wdR I n a b m w → HX11_wide_34 E P (nI n) (nI a) (nI b) (nI w) I J
  | 0, w, J, hw, hr => by
    have e : w = 13 := by omega
    subst e
    rw [hr] at k
    exact wX11_wide_34 ⟨fun _ => k J, fun z => absurd (show (12 : Int32) < nI 13 by decide) z⟩
  | m + 1, w, J, hw, hr => by
    have hp := mS_pow h hn
    have hl := ls_b h (n := n) (w := w) hn
    have b1 := Nat.mul_le_mul hl.2 hb
    have b2 := Nat.mul_le_mul hp.2 ha
    refine wX11_wide_34 ⟨fun z => absurd z (nI_nlt (a := 12) (b := w) (by omega) (by omega)), fun _ => ?_⟩
    refine tX10_lossSum h hn (by omega) (fun J2 => tX10_power h hn ?_)
    rw [pw_N h, nI_l (by omega), nI_l (by omega), lN_mul, lN_mul, nI_1]
    have e1 : wdR I n a b (m + 1) w = if lsN I n w 25 * b ≤ mS I ^ n * a then nI w else wdR I n a b m (w + 1) := rfl
    rw [e1] at hr
    have lt := pk_lLT (a := mS I ^ n * a) (b := lsN I n w 25 * b) (by omega) (by omega)
    refine ⟨fun z => ?_, fun z => ?_⟩
    · rw [if_neg (by have := lt.mp z; omega)] at hr
      exact wideX_loop h hn ha hb k m (w + 1) J2 (by omega) hr
    · have : ¬ mS I ^ n * a < lsN I n w 25 * b := fun y => z (lt.mpr y)
      rw [if_pos (by omega)] at hr
      rw [← hr]; exact k J2
theorem wideM_loop {E : aE} {P : Int32 → hI_ → hJ_ → Prop} {I : hI_} {n a b : Nat} {r : Int32} (h : Rel I) (hn : n ≤ 12) (ha : a ≤ 999) (hb : b ≤ 999) (hb0 : 0 < b) (k : ∀ J2, P r I J2) : ∀ (m w : Nat) (J : hJ_), w + m = 13 → r = wdR I n a b m w → HX12_wide_41 E P (nI n) (nI a) (nI b) (nI w) I J
  | 0, w, J, hw, hr => by
    have e : w = 13 := by omega
    subst e
    rw [hr] at k
    exact wX12_wide_41 ⟨fun _ => k J, fun z => absurd (show (12 : Int32) < nI 13 by decide) z⟩
  | m + 1, w, J, hw, hr => by
    have hp := mS_pow h hn
    have hl := ls_b h (n := n) (w := w) hn
    refine wX12_wide_41 ⟨fun z => absurd z (nI_nlt (a := 12) (b := w) (by omega) (by omega)), fun _ => ?_⟩
    refine tX12_lossOf h hn (by omega) (fun J2 hpw => ?_)
    rw [hpw, nI_l (by omega), nI_l (by omega)]
    refine wX12_isNoMore (nm_loop _ _ _ _ _ _ (Nat.le_refl _) hp.1 hb0 (by omega) (by omega) (by omega) (by omega) ?_)
    rw [nI_1]
    have e1 : wdR I n a b (m + 1) w = if lsN I n w 25 * b ≤ mS I ^ n * a then nI w else wdR I n a b m (w + 1) := rfl
    rw [e1, Nat.mul_comm (mS I ^ n) a] at hr
    refine ⟨fun z => ?_, fun z => ?_⟩
    · have : ¬ lsN I n w 25 * b ≤ a * mS I ^ n := fun y => by
        have e : b2i (lsN I n w 25 * b ≤ a * mS I ^ n) = 1 := if_pos y
        rw [e] at z; exact absurd z (by decide)
      rw [if_neg this] at hr
      exact wideM_loop h hn ha hb hb0 k m (w + 1) J2 (by omega) hr
    · have : lsN I n w 25 * b ≤ a * mS I ^ n := Classical.byContradiction (fun y => z (if_neg y))
      rw [if_pos this] at hr
      rw [← hr]; exact k J2
theorem op_wide {E : aE} {I : hI_} {J : hJ_} {P : hI_ → hJ_ → Prop} {a0 a1 a2 : Int32} (h : Rel I) (hP : ∀ I2 J2, Rel I2 → P I2 J2) : Op2 E mX11_wide mX12_wide [.int a0, .int a1, .int a2] I J P := by
  have kI := hP I J h
  refine wX11_wide ⟨fun c1 => wX12_wide ⟨fun _ => ⟨rfl, kI⟩, fun d => absurd d c1⟩, fun c1 => ⟨fun c2 => wX12_wide ⟨fun _ => ⟨rfl, kI⟩, fun _ => ⟨fun _ => ⟨rfl, kI⟩, fun d => absurd d c2⟩⟩, fun c2 => ⟨fun c3 => ?_, fun c3 => wX12_wide ⟨fun _ => ⟨rfl, kI⟩, fun _ => ⟨fun _ => ⟨rfl, kI⟩, fun _ => ⟨fun d => absurd d c3, fun _ => ⟨rfl, kI⟩⟩⟩⟩⟩⟩⟩
  obtain ⟨n, hn, rfl⟩ := in_le (n := 12) rfl c1
  obtain ⟨a, ha, rfl⟩ := in999 c2
  have hb3 := bet_of c3 (a := 1) (b := 999) rfl rfl
  have e2 : a2 = nI a2.toInt.toNat := ofT (by have := hb3.1; omega)
  have hb : a2.toInt.toNat ≤ 999 := by have := hb3.2; omega
  have hb0 : 0 < a2.toInt.toNat := by have := hb3.1; omega
  generalize a2.toInt.toNat = b at e2 hb hb0
  subst e2
  refine wideX_loop (r := wdR I n a b 13 0) h hn ha hb (fun J2 => ?_) 13 0 J (by omega) rfl
  refine wX12_wide ⟨fun d => absurd c1 d, fun _ => ⟨fun d => absurd c2 d, fun _ => ⟨fun _ => ?_, fun d => absurd c3 d⟩⟩⟩
  exact wideM_loop (r := wdR I n a b 13 0) h hn ha hb hb0 (fun J3 => ⟨rfl, hP I J3 h⟩) 13 0 J2 (by omega) rfl
