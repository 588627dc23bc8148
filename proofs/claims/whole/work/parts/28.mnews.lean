/-! the model's way of looking for news -/
theorem ag1_M {c : Nat} {I I2 : hI_} (h : scM c = true) (h6 : c ≠ 68) (h1 : ag1 c I I2) : agM I I2 := ⟨fun a ha => h1 a (fun e => by subst e; rw [h] at ha; cases ha), fun j _ _ => by rw [h1 68 (fun z => h6 z.symm)]⟩
theorem wI_M {I I2 : hI_} (h : agM I I2) : wI I2 = wI I := by unfold wI; rw [h.1 73 rfl, h.1 75 rfl, h.1 76 rfl]
theorem nP_M {I I2 : hI_} (h : agM I I2) : nP I2 = nP I := by unfold nP; rw [h.1 73 rfl]
theorem m4_nI (k : Nat) : (4 : Int32) * nI k = nI (4 * k) := pk_mul 4 k
def HX12_leaves_6 (E : aE) (P : Int32 → hI_ → hJ_ → Prop) (v1 : Int32) (v2 : Int32) (v4 : Int32) (v5 : Int32) (I : hI_) (J : hJ_) : Prop := V E mX12_leaves (kI SH P) 6 [.ref 68, .int v1, .int v2, .retAddr 0, .int v4, .int v5, .retAddr 0, .retAddr 0] [] (SH, I, J) (0, 0)
def HX12_leaves_17 (E : aE) (P : Int32 → hI_ → hJ_ → Prop) (v1 : Int32) (v2 : Int32) (v4 : Int32) (v5 : Int32) (v6 : Int32) (I : hI_) (J : hJ_) : Prop := V E mX12_leaves (kI SH P) 17 [.ref 68, .int v1, .int v2, .retAddr 0, .int v4, .int v5, .int v6, .retAddr 0] [] (SH, I, J) (0, 0)
set_option maxHeartbeats 4000000 in
set_option maxRecDepth 20000 in
theorem wX12_leaves {E : aE} {P : Int32 → hI_ → hJ_ → Prop} {I : hI_} {J : hJ_} {a0 : Int32} {a1 : Int32} {a2 : Int32} (k : HX12_leaves_6 E P a0 a1 a2 (1 : Int32) I J) : CallI E mX12_leaves [.ref 68, .int a0, .int a1, .int a2] SH I J P := by
  refine Call_of (L := [.ref 68, .int a0, .int a1, .int a2, .retAddr 0, .retAddr 0, .retAddr 0, .retAddr 0]) ok_X12_leaves.1 rfl rfl ?_
  refine V_iload_n dX12_leaves_0 rfl ?_
  refine U_istore (L2 := [.ref 68, .int a0, .int a1, .int a2, .int a2, .retAddr 0, .retAddr 0, .retAddr 0]) dX12_leaves_1 (by decide) rfl ?_
  refine V_iconst (v := (1 : Int32)) dX12_leaves_3 rfl ?_
  refine U_istore (L2 := [.ref 68, .int a0, .int a1, .int a2, .int a2, .int (1 : Int32), .retAddr 0, .retAddr 0]) dX12_leaves_4 (by decide) rfl ?_
  exact V_wk (wk_eq (wk_eq (wk_eq (wk_j (wk_eq (wk_eq (wk_j (wk_j (wk_nil))))))))) k
set_option maxHeartbeats 4000000 in
set_option maxRecDepth 20000 in
theorem wX12_leaves_6 {E : aE} {P : Int32 → hI_ → hJ_ → Prop} {I : hI_} {J : hJ_} {v1 : Int32} {v2 : Int32} {v4 : Int32} {v5 : Int32} (k : ((v5 = (0 : Int32) → P v4 I J) ∧ (¬ (v5 = (0 : Int32)) → HX12_leaves_17 E P v1 v2 v4 (0 : Int32) (0 : Int32) I J))) : HX12_leaves_6 E P v1 v2 v4 v5 I J := by
  show V E mX12_leaves (kI SH P) 6 [.ref 68, .int v1, .int v2, .retAddr 0, .int v4, .int v5, .retAddr 0, .retAddr 0] [] (SH, I, J) (0, 0)
  refine V_iload dX12_leaves_6 rfl ?_
  refine V_if_eq dX12_leaves_8 (fun c1 => ?_) (fun c1 => ?_)
  · have k := k.1 c1
    refine V_iload dX12_leaves_156 rfl ?_
    exact V_iret dX12_leaves_158 ⟨_, rfl, rfl⟩ rfl rfl ⟨_, _, _, rfl, rfl, k⟩
  · have k := k.2 c1
    refine V_iconst (v := (0 : Int32)) dX12_leaves_11 rfl ?_
    refine U_istore (L2 := [.ref 68, .int v1, .int v2, .retAddr 0, .int v4, .int (0 : Int32), .retAddr 0, .retAddr 0]) dX12_leaves_12 (by decide) rfl ?_
    refine V_iconst (v := (0 : Int32)) dX12_leaves_14 rfl ?_
    refine U_istore (L2 := [.ref 68, .int v1, .int v2, .retAddr 0, .int v4, .int (0 : Int32), .int (0 : Int32), .retAddr 0]) dX12_leaves_15 (by decide) rfl ?_
    exact k
set_option maxHeartbeats 4000000 in
set_option maxRecDepth 20000 in
theorem wX12_leaves_17 {E : aE} {P : Int32 → hI_ → hJ_ → Prop} {I : hI_} {J : hJ_} {v1 : Int32} {v2 : Int32} {v4 : Int32} {v5 : Int32} {v6 : Int32} (k : (((I 73 2) ≤ v6 → HX12_leaves_6 E P v1 v2 v4 v5 I J) ∧ (¬ ((I 73 2) ≤ v6) → (vp_in ((4 : Int32) * v6) 48) ∧ ((¬ (I 76 ((4 : Int32) * v6).toNatClampNeg) = v1) → vp_in ((4 : Int32) * v6) 48) ∧ ((¬ (I 76 ((4 : Int32) * v6).toNatClampNeg) = v1) → ((I 76 ((4 : Int32) * v6).toNatClampNeg) = v2) → vp_in (((4 : Int32) * v6) + (1 : Int32)) 48) ∧ (((I 76 ((4 : Int32) * v6).toNatClampNeg) = v1) → vp_in (((4 : Int32) * v6) + (1 : Int32)) 48) ∧ (((I 76 ((4 : Int32) * v6).toNatClampNeg) = v1) → (¬ ((I 76 (((4 : Int32) * v6) + (1 : Int32)).toNatClampNeg) = v2)) → vp_in ((4 : Int32) * v6) 48) ∧ (((I 76 ((4 : Int32) * v6).toNatClampNeg) = v1) → (¬ ((I 76 (((4 : Int32) * v6) + (1 : Int32)).toNatClampNeg) = v2)) → ((I 76 ((4 : Int32) * v6).toNatClampNeg) = v2) → vp_in (((4 : Int32) * v6) + (1 : Int32)) 48) ∧ (((((¬ (I 76 ((4 : Int32) * v6).toNatClampNeg) = v1) ∧ (((I 76 ((4 : Int32) * v6).toNatClampNeg) = v2) ∧ ((I 76 (((4 : Int32) * v6) + (1 : Int32)).toNatClampNeg) = v1))) ∨ (((I 76 ((4 : Int32) * v6).toNatClampNeg) = v1) ∧ (((I 76 (((4 : Int32) * v6) + (1 : Int32)).toNatClampNeg) = v2) ∨ (((I 76 ((4 : Int32) * v6).toNatClampNeg) = v2) ∧ ((I 76 (((4 : Int32) * v6) + (1 : Int32)).toNatClampNeg) = v1)))))) → vp_in (((4 : Int32) * v6) + (2 : Int32)) 48) ∧ (((((¬ (I 76 ((4 : Int32) * v6).toNatClampNeg) = v1) ∧ (((I 76 ((4 : Int32) * v6).toNatClampNeg) = v2) ∧ ((I 76 (((4 : Int32) * v6) + (1 : Int32)).toNatClampNeg) = v1))) ∨ (((I 76 ((4 : Int32) * v6).toNatClampNeg) = v1) ∧ (((I 76 (((4 : Int32) * v6) + (1 : Int32)).toNatClampNeg) = v2) ∨ (((I 76 ((4 : Int32) * v6).toNatClampNeg) = v2) ∧ ((I 76 (((4 : Int32) * v6) + (1 : Int32)).toNatClampNeg) = v1)))))) → vp_in (((4 : Int32) * v6) + (3 : Int32)) 48) ∧ (((((¬ (I 76 ((4 : Int32) * v6).toNatClampNeg) = v1) ∧ (((I 76 ((4 : Int32) * v6).toNatClampNeg) = v2) ∧ ((I 76 (((4 : Int32) * v6) + (1 : Int32)).toNatClampNeg) = v1))) ∨ (((I 76 ((4 : Int32) * v6).toNatClampNeg) = v1) ∧ (((I 76 (((4 : Int32) * v6) + (1 : Int32)).toNatClampNeg) = v2) ∨ (((I 76 ((4 : Int32) * v6).toNatClampNeg) = v2) ∧ ((I 76 (((4 : Int32) * v6) + (1 : Int32)).toNatClampNeg) = v1)))))) → (((I 76 (((4 : Int32) * v6) + (2 : Int32)).toNatClampNeg) ≤ v4 ∧ v4 ≤ (I 76 (((4 : Int32) * v6) + (3 : Int32)).toNatClampNeg))) → vp_in (((4 : Int32) * v6) + (3 : Int32)) 48) ∧ HX12_leaves_17 E P v1 v2 (if ¬ (((¬ (I 76 ((4 : Int32) * v6).toNatClampNeg) = v1) ∧ (((I 76 ((4 : Int32) * v6).toNatClampNeg) = v2) ∧ ((I 76 (((4 : Int32) * v6) + (1 : Int32)).toNatClampNeg) = v1))) ∨ (((I 76 ((4 : Int32) * v6).toNatClampNeg) = v1) ∧ (((I 76 (((4 : Int32) * v6) + (1 : Int32)).toNatClampNeg) = v2) ∨ (((I 76 ((4 : Int32) * v6).toNatClampNeg) = v2) ∧ ((I 76 (((4 : Int32) * v6) + (1 : Int32)).toNatClampNeg) = v1))))) then v4 else (if ¬ ((I 76 (((4 : Int32) * v6) + (2 : Int32)).toNatClampNeg) ≤ v4 ∧ v4 ≤ (I 76 (((4 : Int32) * v6) + (3 : Int32)).toNatClampNeg)) then v4 else ((I 76 (((4 : Int32) * v6) + (3 : Int32)).toNatClampNeg) + (1 : Int32)))) (if ¬ (((¬ (I 76 ((4 : Int32) * v6).toNatClampNeg) = v1) ∧ (((I 76 ((4 : Int32) * v6).toNatClampNeg) = v2) ∧ ((I 76 (((4 : Int32) * v6) + (1 : Int32)).toNatClampNeg) = v1))) ∨ (((I 76 ((4 : Int32) * v6).toNatClampNeg) = v1) ∧ (((I 76 (((4 : Int32) * v6) + (1 : Int32)).toNatClampNeg) = v2) ∨ (((I 76 ((4 : Int32) * v6).toNatClampNeg) = v2) ∧ ((I 76 (((4 : Int32) * v6) + (1 : Int32)).toNatClampNeg) = v1))))) then v5 else (if ¬ ((I 76 (((4 : Int32) * v6) + (2 : Int32)).toNatClampNeg) ≤ v4 ∧ v4 ≤ (I 76 (((4 : Int32) * v6) + (3 : Int32)).toNatClampNeg)) then v5 else (1 : Int32))) (v6 + (1 : Int32)) I J))) : HX12_leaves_17 E P v1 v2 v4 v5 v6 I J := by
  show V E mX12_leaves (kI SH P) 17 [.ref 68, .int v1, .int v2, .retAddr 0, .int v4, .int v5, .int v6, .retAddr 0] [] (SH, I, J) (0, 0)
  refine V_iload dX12_leaves_17 rfl ?_
  refine V_aload_n dX12_leaves_19 rfl ?_
  refine U_getR dX12_leaves_20 fl_X12_22 s_68 rfl ?_
  refine V_iconst (v := (2 : Int32)) dX12_leaves_23 rfl ?_
  refine U_ialdx (x := I 73 2) dX12_leaves_24 s_73 (by unfold vp_in; decide) rfl ?_
  refine V_icmp_ge dX12_leaves_25 (fun c1 => ?_) (fun c1 => ?_)
  · have k := k.1 c1
    refine V_goto dX12_leaves_153 ?_
    exact V_wk (wk_eq (wk_eq (wk_eq (wk_j (wk_eq (wk_eq (wk_j (wk_j (wk_nil))))))))) k
  · have k := k.2 c1
    refine V_aload_n dX12_leaves_28 rfl ?_
    refine U_getR dX12_leaves_29 fl_X12_31 s_68 rfl ?_
    refine V_iconst (v := (4 : Int32)) dX12_leaves_32 rfl ?_
    refine V_iload dX12_leaves_33 rfl ?_
    refine V_imul dX12_leaves_35 ?_
    obtain ⟨hb2, k⟩ := k
    refine U_iald dX12_leaves_36 s_76 hb2 ?_
    refine V_iload_n dX12_leaves_37 rfl ?_
    obtain ⟨hc2010, hc2011, hc2012, hc2013, hc2014, k⟩ := k
    have key3 : ∀ (y2009 : Int32), y2009 = (b2i (((¬ (I 76 ((4 : Int32) * v6).toNatClampNeg) = v1) ∧ (((I 76 ((4 : Int32) * v6).toNatClampNeg) = v2) ∧ ((I 76 (((4 : Int32) * v6) + (1 : Int32)).toNatClampNeg) = v1))) ∨ (((I 76 ((4 : Int32) * v6).toNatClampNeg) = v1) ∧ (((I 76 (((4 : Int32) * v6) + (1 : Int32)).toNatClampNeg) = v2) ∨ (((I 76 ((4 : Int32) * v6).toNatClampNeg) = v2) ∧ ((I 76 (((4 : Int32) * v6) + (1 : Int32)).toNatClampNeg) = v1)))))) → V E mX12_leaves (kI SH P) 89 [.ref 68, .int v1, .int v2, .retAddr 0, .int v4, .int v5, .int v6, .retAddr 0] [.int y2009] (SH, I, J) (0, 0) := by
      intro y2009 ey2009
      subst ey2009
      refine U_istore (L2 := [.ref 68, .int v1, .int v2, .retAddr 0, .int v4, .int v5, .int v6, .int (b2i (((¬ (I 76 ((4 : Int32) * v6).toNatClampNeg) = v1) ∧ (((I 76 ((4 : Int32) * v6).toNatClampNeg) = v2) ∧ ((I 76 (((4 : Int32) * v6) + (1 : Int32)).toNatClampNeg) = v1))) ∨ (((I 76 ((4 : Int32) * v6).toNatClampNeg) = v1) ∧ (((I 76 (((4 : Int32) * v6) + (1 : Int32)).toNatClampNeg) = v2) ∨ (((I 76 ((4 : Int32) * v6).toNatClampNeg) = v2) ∧ ((I 76 (((4 : Int32) * v6) + (1 : Int32)).toNatClampNeg) = v1))))))]) dX12_leaves_89 (by decide) rfl ?_
      refine V_iload dX12_leaves_91 rfl ?_
      obtain ⟨hc4021, hc4022, hc4023, k⟩ := k
      have key2015 : ∀ (y4019 : Int32) (y4020 : Int32), y4019 = (if ¬ (((¬ (I 76 ((4 : Int32) * v6).toNatClampNeg) = v1) ∧ (((I 76 ((4 : Int32) * v6).toNatClampNeg) = v2) ∧ ((I 76 (((4 : Int32) * v6) + (1 : Int32)).toNatClampNeg) = v1))) ∨ (((I 76 ((4 : Int32) * v6).toNatClampNeg) = v1) ∧ (((I 76 (((4 : Int32) * v6) + (1 : Int32)).toNatClampNeg) = v2) ∨ (((I 76 ((4 : Int32) * v6).toNatClampNeg) = v2) ∧ ((I 76 (((4 : Int32) * v6) + (1 : Int32)).toNatClampNeg) = v1))))) then v4 else (if ¬ ((I 76 (((4 : Int32) * v6) + (2 : Int32)).toNatClampNeg) ≤ v4 ∧ v4 ≤ (I 76 (((4 : Int32) * v6) + (3 : Int32)).toNatClampNeg)) then v4 else ((I 76 (((4 : Int32) * v6) + (3 : Int32)).toNatClampNeg) + (1 : Int32)))) → y4020 = (if ¬ (((¬ (I 76 ((4 : Int32) * v6).toNatClampNeg) = v1) ∧ (((I 76 ((4 : Int32) * v6).toNatClampNeg) = v2) ∧ ((I 76 (((4 : Int32) * v6) + (1 : Int32)).toNatClampNeg) = v1))) ∨ (((I 76 ((4 : Int32) * v6).toNatClampNeg) = v1) ∧ (((I 76 (((4 : Int32) * v6) + (1 : Int32)).toNatClampNeg) = v2) ∨ (((I 76 ((4 : Int32) * v6).toNatClampNeg) = v2) ∧ ((I 76 (((4 : Int32) * v6) + (1 : Int32)).toNatClampNeg) = v1))))) then v5 else (if ¬ ((I 76 (((4 : Int32) * v6) + (2 : Int32)).toNatClampNeg) ≤ v4 ∧ v4 ≤ (I 76 (((4 : Int32) * v6) + (3 : Int32)).toNatClampNeg)) then v5 else (1 : Int32))) → V E mX12_leaves (kI SH P) 147 [.ref 68, .int v1, .int v2, .retAddr 0, .int y4019, .int y4020, .int v6, .int (b2i (((¬ (I 76 ((4 : Int32) * v6).toNatClampNeg) = v1) ∧ (((I 76 ((4 : Int32) * v6).toNatClampNeg) = v2) ∧ ((I 76 (((4 : Int32) * v6) + (1 : Int32)).toNatClampNeg) = v1))) ∨ (((I 76 ((4 : Int32) * v6).toNatClampNeg) = v1) ∧ (((I 76 (((4 : Int32) * v6) + (1 : Int32)).toNatClampNeg) = v2) ∨ (((I 76 ((4 : Int32) * v6).toNatClampNeg) = v2) ∧ ((I 76 (((4 : Int32) * v6) + (1 : Int32)).toNatClampNeg) = v1))))))] [] (SH, I, J) (0, 0) := by
        intro y4019 y4020 ey4019 ey4020
        subst ey4019
        subst ey4020
        refine U_iinc (v := v6 + (1 : Int32)) (L2 := [.ref 68, .int v1, .int v2, .retAddr 0, .int (if ¬ (((¬ (I 76 ((4 : Int32) * v6).toNatClampNeg) = v1) ∧ (((I 76 ((4 : Int32) * v6).toNatClampNeg) = v2) ∧ ((I 76 (((4 : Int32) * v6) + (1 : Int32)).toNatClampNeg) = v1))) ∨ (((I 76 ((4 : Int32) * v6).toNatClampNeg) = v1) ∧ (((I 76 (((4 : Int32) * v6) + (1 : Int32)).toNatClampNeg) = v2) ∨ (((I 76 ((4 : Int32) * v6).toNatClampNeg) = v2) ∧ ((I 76 (((4 : Int32) * v6) + (1 : Int32)).toNatClampNeg) = v1))))) then v4 else (if ¬ ((I 76 (((4 : Int32) * v6) + (2 : Int32)).toNatClampNeg) ≤ v4 ∧ v4 ≤ (I 76 (((4 : Int32) * v6) + (3 : Int32)).toNatClampNeg)) then v4 else ((I 76 (((4 : Int32) * v6) + (3 : Int32)).toNatClampNeg) + (1 : Int32)))), .int (if ¬ (((¬ (I 76 ((4 : Int32) * v6).toNatClampNeg) = v1) ∧ (((I 76 ((4 : Int32) * v6).toNatClampNeg) = v2) ∧ ((I 76 (((4 : Int32) * v6) + (1 : Int32)).toNatClampNeg) = v1))) ∨ (((I 76 ((4 : Int32) * v6).toNatClampNeg) = v1) ∧ (((I 76 (((4 : Int32) * v6) + (1 : Int32)).toNatClampNeg) = v2) ∨ (((I 76 ((4 : Int32) * v6).toNatClampNeg) = v2) ∧ ((I 76 (((4 : Int32) * v6) + (1 : Int32)).toNatClampNeg) = v1))))) then v5 else (if ¬ ((I 76 (((4 : Int32) * v6) + (2 : Int32)).toNatClampNeg) ≤ v4 ∧ v4 ≤ (I 76 (((4 : Int32) * v6) + (3 : Int32)).toNatClampNeg)) then v5 else (1 : Int32))), .int (v6 + (1 : Int32)), .int (b2i (((¬ (I 76 ((4 : Int32) * v6).toNatClampNeg) = v1) ∧ (((I 76 ((4 : Int32) * v6).toNatClampNeg) = v2) ∧ ((I 76 (((4 : Int32) * v6) + (1 : Int32)).toNatClampNeg) = v1))) ∨ (((I 76 ((4 : Int32) * v6).toNatClampNeg) = v1) ∧ (((I 76 (((4 : Int32) * v6) + (1 : Int32)).toNatClampNeg) = v2) ∨ (((I 76 ((4 : Int32) * v6).toNatClampNeg) = v2) ∧ ((I 76 (((4 : Int32) * v6) + (1 : Int32)).toNatClampNeg) = v1))))))]) dX12_leaves_147 (by decide) rfl rfl rfl ?_
        refine V_goto dX12_leaves_150 ?_
        exact V_wk (wk_eq (wk_eq (wk_eq (wk_j (wk_eq (wk_eq (wk_eq (wk_j (wk_nil))))))))) k
      refine U_ifb_eq dX12_leaves_93 (fun c4024 => ?_) (fun c4024 => ?_)
      · exact key2015 _ _ (by rw [if_pos c4024]) (by rw [if_pos c4024])
      · refine V_iload dX12_leaves_96 rfl ?_
        refine V_i2l dX12_leaves_98 ?_
        refine V_aload_n dX12_leaves_99 rfl ?_
        refine U_getR dX12_leaves_100 fl_X12_31 s_68 rfl ?_
        refine V_iconst (v := (4 : Int32)) dX12_leaves_103 rfl ?_
        refine V_iload dX12_leaves_104 rfl ?_
        refine V_imul dX12_leaves_106 ?_
        refine V_iconst (v := (2 : Int32)) dX12_leaves_107 rfl ?_
        refine V_iadd dX12_leaves_108 ?_
        have hb4016 := hc4021 c4024
        refine U_iald dX12_leaves_109 s_76 hb4016 ?_
        refine V_i2l dX12_leaves_110 ?_
        refine V_aload_n dX12_leaves_111 rfl ?_
        refine U_getR dX12_leaves_112 fl_X12_31 s_68 rfl ?_
        refine V_iconst (v := (4 : Int32)) dX12_leaves_115 rfl ?_
        refine V_iload dX12_leaves_116 rfl ?_
        refine V_imul dX12_leaves_118 ?_
        refine V_iconst (v := (3 : Int32)) dX12_leaves_119 rfl ?_
        refine V_iadd dX12_leaves_120 ?_
        have hb4017 := hc4022 c4024
        refine U_iald dX12_leaves_121 s_76 hb4017 ?_
        refine V_i2l dX12_leaves_122 ?_
        refine U_callS1 [.long v4.toInt64, .long ((I 76 (((4 : Int32) * v6) + (2 : Int32)).toNatClampNeg).toInt64), .long ((I 76 (((4 : Int32) * v6) + (3 : Int32)).toNatClampNeg).toInt64)] dX12_leaves_123 os_X12_91 ⟨rfl, rfl, rfl⟩ rfl rfl rfl (tX12_in32 (v := v4) (lo := (I 76 (((4 : Int32) * v6) + (2 : Int32)).toNatClampNeg)) (hi := (I 76 (((4 : Int32) * v6) + (3 : Int32)).toNatClampNeg)) rfl rfl rfl ?_)
        refine U_ifb_eq dX12_leaves_126 (fun c4025 => ?_) (fun c4025 => ?_)
        · exact key2015 _ _ (by rw [if_neg (not_not_intro c4024), if_pos c4025]) (by rw [if_neg (not_not_intro c4024), if_pos c4025])
        · refine V_aload_n dX12_leaves_129 rfl ?_
          refine U_getR dX12_leaves_130 fl_X12_31 s_68 rfl ?_
          refine V_iconst (v := (4 : Int32)) dX12_leaves_133 rfl ?_
          refine V_iload dX12_leaves_134 rfl ?_
          refine V_imul dX12_leaves_136 ?_
          refine V_iconst (v := (3 : Int32)) dX12_leaves_137 rfl ?_
          refine V_iadd dX12_leaves_138 ?_
          have hb4018 := hc4023 c4024 c4025
          refine U_iald dX12_leaves_139 s_76 hb4018 ?_
          refine V_iconst (v := (1 : Int32)) dX12_leaves_140 rfl ?_
          refine V_iadd dX12_leaves_141 ?_
          refine U_istore (L2 := [.ref 68, .int v1, .int v2, .retAddr 0, .int ((I 76 (((4 : Int32) * v6) + (3 : Int32)).toNatClampNeg) + (1 : Int32)), .int v5, .int v6, .int (b2i (((¬ (I 76 ((4 : Int32) * v6).toNatClampNeg) = v1) ∧ (((I 76 ((4 : Int32) * v6).toNatClampNeg) = v2) ∧ ((I 76 (((4 : Int32) * v6) + (1 : Int32)).toNatClampNeg) = v1))) ∨ (((I 76 ((4 : Int32) * v6).toNatClampNeg) = v1) ∧ (((I 76 (((4 : Int32) * v6) + (1 : Int32)).toNatClampNeg) = v2) ∨ (((I 76 ((4 : Int32) * v6).toNatClampNeg) = v2) ∧ ((I 76 (((4 : Int32) * v6) + (1 : Int32)).toNatClampNeg) = v1))))))]) dX12_leaves_142 (by decide) rfl ?_
          refine V_iconst (v := (1 : Int32)) dX12_leaves_144 rfl ?_
          refine U_istore (L2 := [.ref 68, .int v1, .int v2, .retAddr 0, .int ((I 76 (((4 : Int32) * v6) + (3 : Int32)).toNatClampNeg) + (1 : Int32)), .int (1 : Int32), .int v6, .int (b2i (((¬ (I 76 ((4 : Int32) * v6).toNatClampNeg) = v1) ∧ (((I 76 ((4 : Int32) * v6).toNatClampNeg) = v2) ∧ ((I 76 (((4 : Int32) * v6) + (1 : Int32)).toNatClampNeg) = v1))) ∨ (((I 76 ((4 : Int32) * v6).toNatClampNeg) = v1) ∧ (((I 76 (((4 : Int32) * v6) + (1 : Int32)).toNatClampNeg) = v2) ∨ (((I 76 ((4 : Int32) * v6).toNatClampNeg) = v2) ∧ ((I 76 (((4 : Int32) * v6) + (1 : Int32)).toNatClampNeg) = v1))))))]) dX12_leaves_145 (by decide) rfl ?_
          exact key2015 _ _ (by rw [if_neg (not_not_intro c4024), if_neg (not_not_intro c4025)]) (by rw [if_neg (not_not_intro c4024), if_neg (not_not_intro c4025)])
    refine V_icmp_ne dX12_leaves_38 (fun c4026 => ?_) (fun c4026 => ?_)
    · refine V_aload_n dX12_leaves_56 rfl ?_
      refine U_getR dX12_leaves_57 fl_X12_31 s_68 rfl ?_
      refine V_iconst (v := (4 : Int32)) dX12_leaves_60 rfl ?_
      refine V_iload dX12_leaves_61 rfl ?_
      refine V_imul dX12_leaves_63 ?_
      have hb1004 := hc2010 c4026
      refine U_iald dX12_leaves_64 s_76 hb1004 ?_
      refine V_iload_n dX12_leaves_65 rfl ?_
      refine V_icmp_ne dX12_leaves_66 (fun c4027 => ?_) (fun c4027 => ?_)
      · refine V_iconst (v := (0 : Int32)) dX12_leaves_88 rfl ?_
        exact key3 _ ((b2i_0.mpr (fun q => q.elim (fun z => (fun q => c4027 q.1) z.2) (fun z => c4026 z.1))).symm)
      · refine V_aload_n dX12_leaves_69 rfl ?_
        refine U_getR dX12_leaves_70 fl_X12_31 s_68 rfl ?_
        refine V_iconst (v := (4 : Int32)) dX12_leaves_73 rfl ?_
        refine V_iload dX12_leaves_74 rfl ?_
        refine V_imul dX12_leaves_76 ?_
        refine V_iconst (v := (1 : Int32)) dX12_leaves_77 rfl ?_
        refine V_iadd dX12_leaves_78 ?_
        have hb1005 := hc2011 c4026 c4027
        refine U_iald dX12_leaves_79 s_76 hb1005 ?_
        refine V_iload_n dX12_leaves_80 rfl ?_
        refine V_icmp_ne dX12_leaves_81 (fun c4028 => ?_) (fun c4028 => ?_)
        · refine V_iconst (v := (0 : Int32)) dX12_leaves_88 rfl ?_
          exact key3 _ ((b2i_0.mpr (fun q => q.elim (fun z => (fun q => (fun q => c4028 q) q.2) z.2) (fun z => c4026 z.1))).symm)
        · refine V_iconst (v := (1 : Int32)) dX12_leaves_84 rfl ?_
          refine V_goto dX12_leaves_85 ?_
          exact key3 _ ((b2i_1.mpr (Or.inl ⟨c4026, ⟨c4027, c4028⟩⟩)).symm)
    · refine V_aload_n dX12_leaves_41 rfl ?_
      refine U_getR dX12_leaves_42 fl_X12_31 s_68 rfl ?_
      refine V_iconst (v := (4 : Int32)) dX12_leaves_45 rfl ?_
      refine V_iload dX12_leaves_46 rfl ?_
      refine V_imul dX12_leaves_48 ?_
      refine V_iconst (v := (1 : Int32)) dX12_leaves_49 rfl ?_
      refine V_iadd dX12_leaves_50 ?_
      have hb2006 := hc2012 c4026
      refine U_iald dX12_leaves_51 s_76 hb2006 ?_
      refine V_iload_n dX12_leaves_52 rfl ?_
      refine V_icmp_eq dX12_leaves_53 (fun c4029 => ?_) (fun c4029 => ?_)
      · refine V_iconst (v := (1 : Int32)) dX12_leaves_84 rfl ?_
        refine V_goto dX12_leaves_85 ?_
        exact key3 _ ((b2i_1.mpr (Or.inr ⟨c4026, Or.inl c4029⟩)).symm)
      · refine V_aload_n dX12_leaves_56 rfl ?_
        refine U_getR dX12_leaves_57 fl_X12_31 s_68 rfl ?_
        refine V_iconst (v := (4 : Int32)) dX12_leaves_60 rfl ?_
        refine V_iload dX12_leaves_61 rfl ?_
        refine V_imul dX12_leaves_63 ?_
        have hb2007 := hc2013 c4026 c4029
        refine U_iald dX12_leaves_64 s_76 hb2007 ?_
        refine V_iload_n dX12_leaves_65 rfl ?_
        refine V_icmp_ne dX12_leaves_66 (fun c4030 => ?_) (fun c4030 => ?_)
        · refine V_iconst (v := (0 : Int32)) dX12_leaves_88 rfl ?_
          exact key3 _ ((b2i_0.mpr (fun q => q.elim (fun z => z.1 c4026) (fun z => (fun q => q.elim (fun z => c4029 z) (fun q => c4030 q.1)) z.2))).symm)
        · refine V_aload_n dX12_leaves_69 rfl ?_
          refine U_getR dX12_leaves_70 fl_X12_31 s_68 rfl ?_
          refine V_iconst (v := (4 : Int32)) dX12_leaves_73 rfl ?_
          refine V_iload dX12_leaves_74 rfl ?_
          refine V_imul dX12_leaves_76 ?_
          refine V_iconst (v := (1 : Int32)) dX12_leaves_77 rfl ?_
          refine V_iadd dX12_leaves_78 ?_
          have hb2008 := hc2014 c4026 c4029 c4030
          refine U_iald dX12_leaves_79 s_76 hb2008 ?_
          refine V_iload_n dX12_leaves_80 rfl ?_
          refine V_icmp_ne dX12_leaves_81 (fun c4031 => ?_) (fun c4031 => ?_)
          · refine V_iconst (v := (0 : Int32)) dX12_leaves_88 rfl ?_
            exact key3 _ ((b2i_0.mpr (fun q => q.elim (fun z => z.1 c4026) (fun z => (fun q => q.elim (fun z => c4029 z) (fun q => (fun q => c4031 q) q.2)) z.2))).symm)
          · refine V_iconst (v := (1 : Int32)) dX12_leaves_84 rfl ?_
            refine V_goto dX12_leaves_85 ?_
            exact key3 _ ((b2i_1.mpr (Or.inr ⟨c4026, Or.inr (⟨c4030, c4031⟩)⟩)).symm)
theorem own_iff {A B x y : Int32} : (((¬ A = x) ∧ ((A = y) ∧ (B = x))) ∨ ((A = x) ∧ ((B = y) ∨ ((A = y) ∧ (B = x))))) ↔ ((A = x ∧ B = y) ∨ (A = y ∧ B = x)) := by
  by_cases h : A = x
  · simp [h]
  · simp [h]
theorem leav_in {E : aE} {P : Int32 → hI_ → hJ_ → Prop} {I : hI_} {J : hJ_} {a b C : Nat} (h : Rel I) {O : Nat} (k : ∀ t o, t ≤ 10000 → op ((wI I).2 a b) t = O → ((o = 0 ∧ (wI I).2 a b t = false) ∨ (o = 1 ∧ cntS I a b t < C)) → HX12_leaves_6 E P (nI a) (nI b) (nI t) o I J) : ∀ (m s t : Nat) (o : Int32), s + m = nsh I → t ≤ 10000 → op ((wI I).2 a b) t = O → ((o = 0 ∧ cntS I a b t ≤ C ∧ ∀ q, q < s → hitB I a b q t = false) ∨ (o = 1 ∧ cntS I a b t < C)) → HX12_leaves_17 E P (nI a) (nI b) (nI t) o (nI s) I J
  | 0, s, t, o, hs, ht, hO, ho => by
    have hN := Rel_shut h
    have : s = nsh I := by omega
    subst this
    refine wX12_leaves_17 ⟨fun _ => ?_, fun q => absurd (by rw [hN.2.1]; exact Int32.le_refl _) q⟩
    refine k t o ht hO ?_
    rcases ho with ⟨h1, h2, h3⟩ | h1
    · exact Or.inl ⟨h1, cl_no h h3⟩
    · exact Or.inr h1
  | m + 1, s, t, o, hs, ht, hO, ho => by
    have hN := Rel_shut h
    obtain ⟨-, -, e2, e3, hft, hT, -⟩ := hN.2.2.2 s (by omega)
    have v0 : vp_in (nI (4 * s)) 48 := vp_in_nI (by omega) (by omega)
    have v1 : vp_in (nI (4 * s + 1)) 48 := vp_in_nI (by omega) (by omega)
    have v2 : vp_in (nI (4 * s + 2)) 48 := vp_in_nI (by omega) (by omega)
    have v3 : vp_in (nI (4 * s + 3)) 48 := vp_in_nI (by omega) (by omega)
    have a1 : nI (4 * s) + 1 = nI (4 * s + 1) := nI_1 _
    have a2 : nI (4 * s) + 2 = nI (4 * s + 2) := nI_add _ 2
    have a3 : nI (4 * s) + 3 = nI (4 * s + 3) := nI_add _ 3
    refine wX12_leaves_17 ⟨fun q => absurd q (by rw [hN.2.1]; exact nI_ge (by omega) (by omega)), fun _ => ?_⟩
    rw [m4_nI, a1, a2, a3, nI_clamp (by omega), nI_clamp (by omega), nI_clamp (by omega), nI_clamp (by omega), nI_1]
    refine ⟨v0, fun _ => v0, fun _ _ => v1, fun _ => v1, fun _ _ => v0, fun _ _ _ => v1, fun _ => v2, fun _ => v3, fun _ _ => v3, ?_⟩
    rw [e2, e3, nI_1]
    by_cases hh : hitB I a b s t = true
    · have hh2 := hh
      unfold hitB mtB at hh2
      simp only [Bool.and_eq_true, decide_eq_true_eq] at hh2
      have c1 := own_iff.mpr hh2.1
      have c2 : nI (shF I s) ≤ nI t ∧ nI t ≤ nI (shT I s) := ⟨nI_le (by omega) (by omega), nI_le (by omega) (by omega)⟩
      rw [if_neg (fun q => q c1), if_neg (fun q => q c2), if_neg (fun q => q c1), if_neg (fun q => q c2)]
      have hlt := cntS_hit hN.2.2.1 (by omega) hh
      exact leav_in h k m (s + 1) (shT I s + 1) 1 (by omega) (by omega) (by rw [op_hit h (by omega) hh]; exact hO) (Or.inr ⟨rfl, by rcases ho with ⟨-, h2, -⟩ | ⟨-, h2⟩ <;> omega⟩)
    · have hh : hitB I a b s t = false := by simpa using hh
      have e : ∀ {α : Type} (x y : α), (if ¬ (((¬ I 76 (4 * s) = nI a) ∧ ((I 76 (4 * s) = nI b) ∧ (I 76 (4 * s + 1) = nI a))) ∨ ((I 76 (4 * s) = nI a) ∧ ((I 76 (4 * s + 1) = nI b) ∨ ((I 76 (4 * s) = nI b) ∧ (I 76 (4 * s + 1) = nI a))))) then x else (if ¬ (nI (shF I s) ≤ nI t ∧ nI t ≤ nI (shT I s)) then x else y)) = x := by
        intro α x y
        by_cases c1 : (((¬ I 76 (4 * s) = nI a) ∧ ((I 76 (4 * s) = nI b) ∧ (I 76 (4 * s + 1) = nI a))) ∨ ((I 76 (4 * s) = nI a) ∧ ((I 76 (4 * s + 1) = nI b) ∨ ((I 76 (4 * s) = nI b) ∧ (I 76 (4 * s + 1) = nI a)))))
        · rw [if_neg (fun q => q c1)]
          by_cases c2 : nI (shF I s) ≤ nI t ∧ nI t ≤ nI (shT I s)
          · exfalso
            rw [nI_leI (by omega) (by omega), nI_leI (by omega) (by omega)] at c2
            have : hitB I a b s t = true := by
              unfold hitB mtB
              simp only [Bool.and_eq_true, decide_eq_true_eq]
              exact ⟨own_iff.mp c1, c2.1, c2.2⟩
            rw [hh] at this; cases this
          · rw [if_pos c2]
        · rw [if_pos c1]
      rw [e, e]
      refine leav_in h k m (s + 1) t o (by omega) ht hO ?_
      rcases ho with ⟨h1, h2, h3⟩ | h1
      · refine Or.inl ⟨h1, h2, fun q hq => ?_⟩
        by_cases eq : q = s
        · rw [eq]; exact hh
        · exact h3 q (by omega)
      · exact Or.inr h1
theorem leav_out {E : aE} {P : Int32 → hI_ → hJ_ → Prop} {I : hI_} {J : hJ_} {a b : Nat} (h : Rel I) {O : Nat} (k : P (nI O) I J) : ∀ (C t : Nat) (o : Int32), t ≤ 10000 → op ((wI I).2 a b) t = O → ((o = 0 ∧ (wI I).2 a b t = false) ∨ (o = 1 ∧ cntS I a b t ≤ C)) → HX12_leaves_6 E P (nI a) (nI b) (nI t) o I J := by
  intro C
  induction C using Nat.strongRecOn with
  | ind C ih =>
    intro t o ht hO ho
    refine wX12_leaves_6 ⟨fun c => ?_, fun c => ?_⟩
    · have hfr : (wI I).2 a b t = false := by
        rcases ho with h1 | h1
        · exact h1.2
        · rw [h1.1] at c; exact absurd c (by decide)
      have e : t = O := by rw [← hO, op_free ((Rel_wok h).1 a b) hfr]
      rw [e]; exact k
    · have hc : cntS I a b t ≤ C := by
        rcases ho with h1 | h1
        · exact absurd h1.1 c
        · exact h1.2
      refine leav_in h (C := C) (O := O) (fun t2 o2 g1 g2 g3 => ?_) (nsh I) 0 t 0 (by omega) ht hO (Or.inl ⟨rfl, hc, fun q hq => by omega⟩)
      rcases g3 with g3 | g3
      · refine wX12_leaves_6 ⟨fun _ => ?_, fun c2 => absurd g3.1 c2⟩
        have e : t2 = O := by rw [← g2, op_free ((Rel_wok h).1 a b) g3.2]
        rw [e]; exact k
      · exact ih (cntS I a b t2) g3.2 t2 o2 g1 g2 (Or.inr ⟨g3.1, Nat.le_refl _⟩)
theorem tX12_leaves {E : aE} {P : Int32 → hI_ → hJ_ → Prop} {I : hI_} {J : hJ_} {a b t : Nat} (h : Rel I) (ht : t ≤ 10000) (k : P (nI (op ((wI I).2 a b) t)) I J) : CallI E mX12_leaves [.ref 68, .int (nI a), .int (nI b), .int (nI t)] SH I J P := wX12_leaves (leav_out h k _ t 1 ht rfl (Or.inr ⟨rfl, Nat.le_refl _⟩))
def HX12_layNews_2 (E : aE) (P : hI_ → hJ_ → Prop) (v1 : Int32) (v2 : Int32) (v3 : Int32) (I : hI_) (J : hJ_) : Prop := V E mX12_layNews (kV SH P) 2 [.ref 68, .int v1, .int v2, .int v3, .retAddr 0, .retAddr 0, .retAddr 0, .retAddr 0] [] (SH, I, J) (0, 0)
def HX12_layNews_33 (E : aE) (P : hI_ → hJ_ → Prop) (v3 : Int32) (I : hI_) (J : hJ_) : Prop := V E mX12_layNews (kV SH P) 33 [.ref 68, .retAddr 0, .retAddr 0, .int v3, .retAddr 0, .retAddr 0, .retAddr 0, .retAddr 0] [] (SH, I, J) (0, 0)
def HX12_layNews_42 (E : aE) (P : hI_ → hJ_ → Prop) (v3 : Int32) (v4 : Int32) (I : hI_) (J : hJ_) : Prop := V E mX12_layNews (kV SH P) 42 [.ref 68, .retAddr 0, .retAddr 0, .int v3, .int v4, .retAddr 0, .retAddr 0, .retAddr 0] [] (SH, I, J) (0, 0)
set_option maxHeartbeats 4000000 in
set_option maxRecDepth 20000 in
theorem wX12_layNews {E : aE} {P : hI_ → hJ_ → Prop} {I : hI_} {J : hJ_} {a0 : Int32} {a1 : Int32} (k : HX12_layNews_2 E P a0 a1 (0 : Int32) I J) : CallV E mX12_layNews [.ref 68, .int a0, .int a1] SH I J P := by
  refine Call_of (L := [.ref 68, .int a0, .int a1, .retAddr 0, .retAddr 0, .retAddr 0, .retAddr 0, .retAddr 0]) ok_X12_layNews.1 rfl rfl ?_
  refine V_iconst (v := (0 : Int32)) dX12_layNews_0 rfl ?_
  refine U_istore_n (L2 := [.ref 68, .int a0, .int a1, .int (0 : Int32), .retAddr 0, .retAddr 0, .retAddr 0, .retAddr 0]) dX12_layNews_1 (by decide) rfl ?_
  exact k
set_option maxHeartbeats 4000000 in
set_option maxRecDepth 20000 in
theorem wX12_layNews_2 {E : aE} {P : hI_ → hJ_ → Prop} {I : hI_} {J : hJ_} {v1 : Int32} {v2 : Int32} {v3 : Int32} (k : (((5 : Int32) ≤ v3 → HX12_layNews_33 E P (1 : Int32) I J) ∧ (¬ ((5 : Int32) ≤ v3) → (vp_in v3 5) ∧ HX12_layNews_2 E P v1 v2 (v3 + (1 : Int32)) (upI I 81 v3.toNatClampNeg (if ¬ v3 = v1 then (10000 : Int32) else v2)) J))) : HX12_layNews_2 E P v1 v2 v3 I J := by
  show V E mX12_layNews (kV SH P) 2 [.ref 68, .int v1, .int v2, .int v3, .retAddr 0, .retAddr 0, .retAddr 0, .retAddr 0] [] (SH, I, J) (0, 0)
  refine V_iload_n dX12_layNews_2 rfl ?_
  refine V_iconst (v := (5 : Int32)) dX12_layNews_3 rfl ?_
  refine V_icmp_ge dX12_layNews_4 (fun c1 => ?_) (fun c1 => ?_)
  · have k := k.1 c1
    refine V_iconst (v := (1 : Int32)) dX12_layNews_31 rfl ?_
    refine U_istore_n (L2 := [.ref 68, .int v1, .int v2, .int (1 : Int32), .retAddr 0, .retAddr 0, .retAddr 0, .retAddr 0]) dX12_layNews_32 (by decide) rfl ?_
    exact V_wk (wk_eq (wk_j (wk_j (wk_eq (wk_j (wk_j (wk_j (wk_j (wk_nil))))))))) k
  · have k := k.2 c1
    refine V_aload_n dX12_layNews_7 rfl ?_
    refine U_getR dX12_layNews_8 fl_X12_46 s_68 rfl ?_
    refine V_iload_n dX12_layNews_11 rfl ?_
    refine V_iload_n dX12_layNews_12 rfl ?_
    refine V_iload_n dX12_layNews_13 rfl ?_
    have key2 : ∀ (y2003 : Int32), y2003 = (if ¬ v3 = v1 then (10000 : Int32) else v2) → V E mX12_layNews (kV SH P) 24 [.ref 68, .int v1, .int v2, .int v3, .retAddr 0, .retAddr 0, .retAddr 0, .retAddr 0] [.int y2003, .int v3, .ref 81] (SH, I, J) (0, 0) := by
      intro y2003 ey2003
      subst ey2003
      obtain ⟨hb2004, k⟩ := k
      refine U_iast dX12_layNews_24 s_81 hb2004 ?_
      refine U_iinc (v := v3 + (1 : Int32)) (L2 := [.ref 68, .int v1, .int v2, .int (v3 + (1 : Int32)), .retAddr 0, .retAddr 0, .retAddr 0, .retAddr 0]) dX12_layNews_25 (by decide) rfl rfl rfl ?_
      refine V_goto dX12_layNews_28 ?_
      exact k
    refine V_icmp_ne dX12_layNews_14 (fun c2005 => ?_) (fun c2005 => ?_)
    · refine V_sipush (v := (10000 : Int32)) dX12_layNews_21 rfl ?_
      exact key2 _ (by rw [if_pos c2005])
    · refine V_iload_n dX12_layNews_17 rfl ?_
      refine V_goto dX12_layNews_18 ?_
      exact key2 _ (by rw [if_neg (not_not_intro c2005)])
set_option maxHeartbeats 4000000 in
set_option maxRecDepth 20000 in
theorem wX12_layNews_33 {E : aE} {P : hI_ → hJ_ → Prop} {I : hI_} {J : hJ_} {v3 : Int32} (k : ((v3 = (0 : Int32) → P I J) ∧ (¬ (v3 = (0 : Int32)) → HX12_layNews_42 E P (0 : Int32) (0 : Int32) I J))) : HX12_layNews_33 E P v3 I J := by
  show V E mX12_layNews (kV SH P) 33 [.ref 68, .retAddr 0, .retAddr 0, .int v3, .retAddr 0, .retAddr 0, .retAddr 0, .retAddr 0] [] (SH, I, J) (0, 0)
  refine V_iload_n dX12_layNews_33 rfl ?_
  refine V_if_eq dX12_layNews_34 (fun c1 => ?_) (fun c1 => ?_)
  · have k := k.1 c1
    exact V_vret dX12_layNews_141 rfl rfl rfl ⟨_, _, rfl, k⟩
  · have k := k.2 c1
    refine V_iconst (v := (0 : Int32)) dX12_layNews_37 rfl ?_
    refine U_istore_n (L2 := [.ref 68, .retAddr 0, .retAddr 0, .int (0 : Int32), .retAddr 0, .retAddr 0, .retAddr 0, .retAddr 0]) dX12_layNews_38 (by decide) rfl ?_
    refine V_iconst (v := (0 : Int32)) dX12_layNews_39 rfl ?_
    refine U_istore (L2 := [.ref 68, .retAddr 0, .retAddr 0, .int (0 : Int32), .int (0 : Int32), .retAddr 0, .retAddr 0, .retAddr 0]) dX12_layNews_40 (by decide) rfl ?_
    exact k
set_option maxHeartbeats 4000000 in
set_option maxRecDepth 20000 in
theorem wX12_layNews_42 {E : aE} {P : hI_ → hJ_ → Prop} {I : hI_} {J : hJ_} {v3 : Int32} {v4 : Int32} (k : (((25 : Int32) ≤ v4 → HX12_layNews_33 E P v3 I J) ∧ (¬ ((25 : Int32) ≤ v4) → (vp_in v4 25) ∧ (((I 75 v4.toNatClampNeg) ≤ (0 : Int32) → HX12_layNews_42 E P v3 (v4 + (1 : Int32)) I J) ∧ (¬ ((I 75 v4.toNatClampNeg) ≤ (0 : Int32)) → (vp_in (v4 / (5 : Int32)) 5) ∧ (((10000 : Int32) ≤ (I 81 (v4 / (5 : Int32)).toNatClampNeg) → HX12_layNews_42 E P v3 (v4 + (1 : Int32)) I J) ∧ (¬ ((10000 : Int32) ≤ (I 81 (v4 / (5 : Int32)).toNatClampNeg)) → (vp_in (v4 / (5 : Int32)) 5) ∧ CallI E mX12_leaves [.ref 68, .int (v4 / (5 : Int32)), .int (v4 - v4 / (5 : Int32) * (5 : Int32)), .int (I 81 (v4 / (5 : Int32)).toNatClampNeg)] SH I J (fun x7 I8 J9 => (vp_in v4 25) ∧ (vp_in (v4 - v4 / (5 : Int32) * (5 : Int32)) 5) ∧ (((I8 81 (v4 - v4 / (5 : Int32) * (5 : Int32)).toNatClampNeg) ≤ (x7 + (I8 75 v4.toNatClampNeg)) → HX12_layNews_42 E P v3 (v4 + (1 : Int32)) I8 J9) ∧ (¬ ((I8 81 (v4 - v4 / (5 : Int32) * (5 : Int32)).toNatClampNeg) ≤ (x7 + (I8 75 v4.toNatClampNeg))) → (vp_in (v4 - v4 / (5 : Int32) * (5 : Int32)) 5) ∧ HX12_layNews_42 E P (1 : Int32) (v4 + (1 : Int32)) (upI I8 81 ((v4 - v4 / (5 : Int32) * (5 : Int32)).toNatClampNeg) (x7 + (I8 75 v4.toNatClampNeg))) J9)))))))))) : HX12_layNews_42 E P v3 v4 I J := by
  show V E mX12_layNews (kV SH P) 42 [.ref 68, .retAddr 0, .retAddr 0, .int v3, .int v4, .retAddr 0, .retAddr 0, .retAddr 0] [] (SH, I, J) (0, 0)
  refine V_iload dX12_layNews_42 rfl ?_
  refine V_bipush (v := (25 : Int32)) dX12_layNews_44 rfl ?_
  refine V_icmp_ge dX12_layNews_46 (fun c1 => ?_) (fun c1 => ?_)
  · have k := k.1 c1
    refine V_goto dX12_layNews_138 ?_
    exact V_wk (wk_eq (wk_j (wk_j (wk_eq (wk_j (wk_j (wk_j (wk_j (wk_nil))))))))) k
  · have k := k.2 c1
    refine V_iload dX12_layNews_49 rfl ?_
    refine V_iconst (v := (5 : Int32)) dX12_layNews_51 rfl ?_
    refine V_idiv dX12_layNews_52 (by decide) ?_
    refine U_istore (L2 := [.ref 68, .retAddr 0, .retAddr 0, .int v3, .int v4, .int (v4 / (5 : Int32)), .retAddr 0, .retAddr 0]) dX12_layNews_53 (by decide) rfl ?_
    refine V_iload dX12_layNews_55 rfl ?_
    refine V_iconst (v := (5 : Int32)) dX12_layNews_57 rfl ?_
    refine V_irem dX12_layNews_58 (by decide) ?_
    refine U_istore (L2 := [.ref 68, .retAddr 0, .retAddr 0, .int v3, .int v4, .int (v4 / (5 : Int32)), .int (v4 - v4 / (5 : Int32) * (5 : Int32)), .retAddr 0]) dX12_layNews_59 (by decide) rfl ?_
    refine V_aload_n dX12_layNews_61 rfl ?_
    refine U_getR dX12_layNews_62 fl_X12_28 s_68 rfl ?_
    refine V_iload dX12_layNews_65 rfl ?_
    obtain ⟨hb2, k⟩ := k
    refine U_iald dX12_layNews_67 s_75 hb2 ?_
    refine V_if_le dX12_layNews_68 (fun c3 => ?_) (fun c3 => ?_)
    · have k := k.1 c3
      refine U_iinc (v := v4 + (1 : Int32)) (L2 := [.ref 68, .retAddr 0, .retAddr 0, .int v3, .int (v4 + (1 : Int32)), .int (v4 / (5 : Int32)), .int (v4 - v4 / (5 : Int32) * (5 : Int32)), .retAddr 0]) dX12_layNews_132 (by decide) rfl rfl rfl ?_
      refine V_goto dX12_layNews_135 ?_
      exact V_wk (wk_eq (wk_j (wk_j (wk_eq (wk_eq (wk_j (wk_j (wk_j (wk_nil))))))))) k
    · have k := k.2 c3
      refine V_aload_n dX12_layNews_71 rfl ?_
      refine U_getR dX12_layNews_72 fl_X12_46 s_68 rfl ?_
      refine V_iload dX12_layNews_75 rfl ?_
      obtain ⟨hb4, k⟩ := k
      refine U_iald dX12_layNews_77 s_81 hb4 ?_
      refine V_sipush (v := (10000 : Int32)) dX12_layNews_78 rfl ?_
      refine V_icmp_ge dX12_layNews_81 (fun c5 => ?_) (fun c5 => ?_)
      · have k := k.1 c5
        refine U_iinc (v := v4 + (1 : Int32)) (L2 := [.ref 68, .retAddr 0, .retAddr 0, .int v3, .int (v4 + (1 : Int32)), .int (v4 / (5 : Int32)), .int (v4 - v4 / (5 : Int32) * (5 : Int32)), .retAddr 0]) dX12_layNews_132 (by decide) rfl rfl rfl ?_
        refine V_goto dX12_layNews_135 ?_
        exact V_wk (wk_eq (wk_j (wk_j (wk_eq (wk_eq (wk_j (wk_j (wk_j (wk_nil))))))))) k
      · have k := k.2 c5
        refine V_aload_n dX12_layNews_84 rfl ?_
        refine V_iload dX12_layNews_85 rfl ?_
        refine V_iload dX12_layNews_87 rfl ?_
        refine V_aload_n dX12_layNews_89 rfl ?_
        refine U_getR dX12_layNews_90 fl_X12_46 s_68 rfl ?_
        refine V_iload dX12_layNews_93 rfl ?_
        obtain ⟨hb6, k⟩ := k
        refine U_iald dX12_layNews_95 s_81 hb6 ?_
        refine U_callV1 [.int (v4 / (5 : Int32)), .int (v4 - v4 / (5 : Int32) * (5 : Int32)), .int (I 81 (v4 / (5 : Int32)).toNatClampNeg)] dX12_layNews_96 ov_X12_171 s_68 rfl ⟨rfl, rfl, rfl⟩ rfl rfl rfl (CallI_mono k (fun x7 I8 J9 k => ?_))
        refine V_aload_n dX12_layNews_99 rfl ?_
        refine U_getR dX12_layNews_100 fl_X12_28 s_68 rfl ?_
        refine V_iload dX12_layNews_103 rfl ?_
        obtain ⟨hb10, k⟩ := k
        refine U_iald dX12_layNews_105 s_75 hb10 ?_
        refine V_iadd dX12_layNews_106 ?_
        refine U_istore (L2 := [.ref 68, .retAddr 0, .retAddr 0, .int v3, .int v4, .int (v4 / (5 : Int32)), .int (v4 - v4 / (5 : Int32) * (5 : Int32)), .int (x7 + (I8 75 v4.toNatClampNeg))]) dX12_layNews_107 (by decide) rfl ?_
        refine V_iload dX12_layNews_109 rfl ?_
        refine V_aload_n dX12_layNews_111 rfl ?_
        refine U_getR dX12_layNews_112 fl_X12_46 s_68 rfl ?_
        refine V_iload dX12_layNews_115 rfl ?_
        obtain ⟨hb11, k⟩ := k
        refine U_iald dX12_layNews_117 s_81 hb11 ?_
        refine V_icmp_ge dX12_layNews_118 (fun c12 => ?_) (fun c12 => ?_)
        · have k := k.1 c12
          refine U_iinc (v := v4 + (1 : Int32)) (L2 := [.ref 68, .retAddr 0, .retAddr 0, .int v3, .int (v4 + (1 : Int32)), .int (v4 / (5 : Int32)), .int (v4 - v4 / (5 : Int32) * (5 : Int32)), .int (x7 + (I8 75 v4.toNatClampNeg))]) dX12_layNews_132 (by decide) rfl rfl rfl ?_
          refine V_goto dX12_layNews_135 ?_
          exact V_wk (wk_eq (wk_j (wk_j (wk_eq (wk_eq (wk_j (wk_j (wk_j (wk_nil))))))))) k
        · have k := k.2 c12
          refine V_aload_n dX12_layNews_121 rfl ?_
          refine U_getR dX12_layNews_122 fl_X12_46 s_68 rfl ?_
          refine V_iload dX12_layNews_125 rfl ?_
          refine V_iload dX12_layNews_127 rfl ?_
          obtain ⟨hb13, k⟩ := k
          refine U_iast dX12_layNews_129 s_81 hb13 ?_
          refine V_iconst (v := (1 : Int32)) dX12_layNews_130 rfl ?_
          refine U_istore_n (L2 := [.ref 68, .retAddr 0, .retAddr 0, .int (1 : Int32), .int v4, .int (v4 / (5 : Int32)), .int (v4 - v4 / (5 : Int32) * (5 : Int32)), .int (x7 + (I8 75 v4.toNatClampNeg))]) dX12_layNews_131 (by decide) rfl ?_
          refine U_iinc (v := v4 + (1 : Int32)) (L2 := [.ref 68, .retAddr 0, .retAddr 0, .int (1 : Int32), .int (v4 + (1 : Int32)), .int (v4 / (5 : Int32)), .int (v4 - v4 / (5 : Int32) * (5 : Int32)), .int (x7 + (I8 75 v4.toNatClampNeg))]) dX12_layNews_132 (by decide) rfl rfl rfl ?_
          refine V_goto dX12_layNews_135 ?_
          exact V_wk (wk_eq (wk_j (wk_j (wk_eq (wk_eq (wk_j (wk_j (wk_j (wk_nil))))))))) k
def sum5 (D : Nat → Nat) : Nat := D 0 + D 1 + D 2 + D 3 + D 4
theorem sum5_lt {D : Nat → Nat} {q v : Nat} (hq : q < 5) (hv : v < D q) : sum5 (fun j => if j = q then v else D j) < sum5 D := by
  unfold sum5
  rcases (show q = 0 ∨ q = 1 ∨ q = 2 ∨ q = 3 ∨ q = 4 by omega) with rfl | rfl | rfl | rfl | rfl <;> simp <;> omega
def lnI (w : Wld) (a t : Nat) (D : Nat → Nat) : Prop := (∀ j, D j ≤ 10000) ∧ (∀ j, 5 ≤ j → j ≠ a → D j = 10000) ∧ D a ≤ t ∧ (∀ F, clsd w F → F a ≤ t → ∀ v, F v ≤ D v)
theorem lay_in {E : aE} {P : hI_ → hJ_ → Prop} {I0 : hI_} {J : hJ_} {a t S : Nat} (h : Rel I0) (k : ∀ I2 o D, ag1 81 I0 I2 → (∀ j, j < 5 → I2 81 j = nI (D j)) → lnI (wI I0) a t D → ((o = 0 ∧ clsd (wI I0) D) ∨ (o = 1 ∧ sum5 D < S)) → HX12_layNews_33 E P o I2 J) : ∀ (m x : Nat) (D : Nat → Nat) (I : hI_) (o : Int32), x + m = 25 → ag1 81 I0 I → (∀ j, j < 5 → I 81 j = nI (D j)) → lnI (wI I0) a t D → ((o = 0 ∧ sum5 D = S ∧ ∀ y, y < x → 0 < (wI I0).1 (y / 5) (y % 5) → D (y % 5) ≤ op ((wI I0).2 (y / 5) (y % 5)) (D (y / 5)) + (wI I0).1 (y / 5) (y % 5)) ∨ (o = 1 ∧ sum5 D < S)) → HX12_layNews_42 E P o (nI x) I J
  | 0, x, D, I, o, hx, hag, hI, hL, ho => by
    have : x = 25 := by omega
    subst this
    refine wX12_layNews_42 ⟨fun _ => k I o D hag hI hL ?_, fun q => absurd (by decide) q⟩
    rcases ho with ⟨h1, h2, h3⟩ | h1
    · refine Or.inl ⟨h1, hL.1, fun u v huv => ?_⟩
      have h5 := (Rel_wok h).2.2.2.2 u v huv
      have := h3 (5 * u + v) (by omega)
      rw [show (5 * u + v) / 5 = u by omega, show (5 * u + v) % 5 = v by omega] at this
      exact this huv
    · exact Or.inr h1
  | m + 1, x, D, I, o, hx, hag, hI, hL, ho => by
    have hM : agM I0 I := ag1_M rfl (by omega) hag
    have hR := Rel_agM hM h
    have hw := wI_M hM
    have p5 : x / 5 < 5 := by omega
    have q5 : x % 5 < 5 := by omega
    obtain ⟨-, w2, w3, w4⟩ := Rel_way h p5 q5
    have e25 : 5 * (x / 5) + x % 5 = x := by omega
    rw [e25] at w2
    have ed : nI x / 5 = nI (x / 5) := pk_div (a := x) (d := 5) (by omega) (by omega) (by omega)
    have er : nI x - nI (x / 5) * 5 = nI (x % 5) := by
      have := pk_rem (a := x) (d := 5) (by omega) (by omega) (by omega)
      rw [show nI 5 = (5 : Int32) from rfl, ed] at this
      exact this
    have vx : vp_in (nI x) 25 := vp_in_nI (by omega) (by omega)
    have vp : vp_in (nI (x / 5)) 5 := vp_in_nI p5 (by omega)
    have vq : vp_in (nI (x % 5)) 5 := vp_in_nI q5 (by omega)
    have hDp := hL.1 (x / 5)
    have hDq := hL.1 (x % 5)
    -- the round goes on with nothing changed
    have same : (0 < (wI I0).1 (x / 5) (x % 5) → D (x % 5) ≤ op ((wI I0).2 (x / 5) (x % 5)) (D (x / 5)) + (wI I0).1 (x / 5) (x % 5)) → HX12_layNews_42 E P o (nI (x + 1)) I J := fun hk => by
      refine lay_in h k m (x + 1) D I o (by omega) hag hI hL ?_
      rcases ho with ⟨h1, h2, h3⟩ | h1
      · refine Or.inl ⟨h1, h2, fun y hy hyw => ?_⟩
        by_cases e : y = x
        · subst e; exact hk hyw
        · exact h3 y (by omega) hyw
      · exact Or.inr h1
    refine wX12_layNews_42 ⟨fun q => absurd q (nI_ge (b := 25) (by omega) (by omega)), fun _ => ?_⟩
    rw [ed, er, nI_clamp (by omega), nI_clamp (by omega), nI_clamp (by omega), hag 75 (by omega), w2, hI _ p5, nI_1]
    refine ⟨vx, fun c1 => ?_, fun c1 => ⟨vp, fun c2 => ?_, fun c2 => ⟨vp, ?_⟩⟩⟩
    · rw [nIz (by omega)] at c1
      exact same (fun q => by omega)
    · have c2 : 10000 ≤ D (x / 5) := (nI_leI (a := 10000) (by omega) (by omega)).mp c2
      refine same (fun _ => ?_)
      have := op_ge ((wI I0).2 (x / 5) (x % 5)) (D (x / 5))
      omega
    · have c2 : D (x / 5) < 10000 := Nat.lt_of_not_le (fun q => c2 (nI_le (a := 10000) q (by omega)))
      have ho2 := op_1000 ((Rel_wok h).1 (x / 5) (x % 5)) (t := D (x / 5))
      rw [nIz (by omega)] at c1
      refine tX12_leaves hR (by omega) ?_
      rw [hw, hag 75 (by omega), w2, hI _ q5, nI_add]
      refine ⟨vx, vq, fun c3 => ?_, fun c3 => ⟨vq, ?_⟩⟩
      · rw [nI_leI (by omega) (by omega)] at c3
        exact same (fun _ => c3)
      · rw [nI_leI (by omega) (by omega)] at c3
        have hlt := sum5_lt (D := D) (q := x % 5) (v := op ((wI I0).2 (x / 5) (x % 5)) (D (x / 5)) + (wI I0).1 (x / 5) (x % 5)) q5 (by omega)
        refine lay_in h k m (x + 1) (fun j => if j = x % 5 then op ((wI I0).2 (x / 5) (x % 5)) (D (x / 5)) + (wI I0).1 (x / 5) (x % 5) else D j) _ 1 (by omega) (ag1_tr hag ag1_up) (fun j hj => ?_) ⟨?_, ?_, ?_, ?_⟩ (Or.inr ⟨rfl, ?_⟩)
        · rw [upI_at]
          by_cases e : j = x % 5
          · rw [if_pos ⟨rfl, e⟩, if_pos e]
          · rw [if_neg (fun q => e q.2), if_neg e]; exact hI j hj
        · intro j
          dsimp only
          split
          · omega
          · exact hL.1 j
        · intro j hj hja
          dsimp only
          rw [if_neg (by omega)]
          exact hL.2.1 j hj hja
        · dsimp only
          split
          · rename_i e
            have := hL.2.2.1
            rw [e] at this
            omega
          · exact hL.2.2.1
        · intro F hF hFa v
          dsimp only
          split
          · rename_i e
            subst e
            have h2 := hF.2 (x / 5) (x % 5) (by omega)
            have h3 := op_mono ((Rel_wok h).1 (x / 5) (x % 5)) (hL.2.2.2 F hF hFa (x / 5))
            omega
          · exact hL.2.2.2 F hF hFa v
        · rcases ho with ⟨-, h2, -⟩ | ⟨-, h2⟩ <;> omega
theorem lay_out {E : aE} {P : hI_ → hJ_ → Prop} {I0 : hI_} {J : hJ_} {a t : Nat} (h : Rel I0) (k : ∀ I2, ag1 81 I0 I2 → (∀ j, j < 5 → I2 81 j = nI (arr (wI I0) a t j)) → P I2 J) : ∀ (S : Nat) (D : Nat → Nat) (I : hI_) (o : Int32), ag1 81 I0 I → (∀ j, j < 5 → I 81 j = nI (D j)) → lnI (wI I0) a t D → ((o = 0 ∧ clsd (wI I0) D) ∨ (o = 1 ∧ sum5 D ≤ S)) → HX12_layNews_33 E P o I J := by
  intro S
  induction S using Nat.strongRecOn with
  | ind S ih =>
    intro D I o hag hI hL ho
    have fin : ∀ (D : Nat → Nat) (I : hI_), ag1 81 I0 I → (∀ j, j < 5 → I 81 j = nI (D j)) → lnI (wI I0) a t D → clsd (wI I0) D → P I J := fun D I hag hI hL hc => by
      refine k I hag (fun j hj => ?_)
      rw [hI j hj, arr_eq hc hL.2.2.1 hL.2.2.2]
    refine wX12_layNews_33 ⟨fun c => ?_, fun c => ?_⟩
    · rcases ho with h1 | h1
      · exact fin D I hag hI hL h1.2
      · rw [h1.1] at c; exact absurd c (by decide)
    · have hc : sum5 D ≤ S := by
        rcases ho with h1 | h1
        · exact absurd h1.1 c
        · exact h1.2
      refine lay_in h (S := sum5 D) (fun I2 o2 D2 g1 g2 g3 g4 => ?_) 25 0 D I 0 (by omega) hag hI hL (Or.inl ⟨rfl, rfl, fun y hy => by omega⟩)
      rcases g4 with g4 | g4
      · exact wX12_layNews_33 ⟨fun _ => fin D2 I2 g1 g2 g3 g4.2, fun c2 => absurd g4.1 c2⟩
      · exact ih (sum5 D2) (by omega) D2 I2 o2 g1 g2 g3 (Or.inr ⟨g4.1, Nat.le_refl _⟩)
theorem lay_init {E : aE} {P : hI_ → hJ_ → Prop} {I0 : hI_} {J : hJ_} {a t : Nat} (ha : a < 5) (ht : t ≤ 10000) (k : ∀ I2, ag1 81 I0 I2 → (∀ j, j < 5 → I2 81 j = nI (if j = a then t else 10000)) → HX12_layNews_33 E P 1 I2 J) : ∀ (m i : Nat) (I : hI_), i + m = 5 → ag1 81 I0 I → (∀ j, j < i → I 81 j = nI (if j = a then t else 10000)) → HX12_layNews_2 E P (nI a) (nI t) (nI i) I J
  | 0, i, I, hi, hag, hI => by
    have : i = 5 := by omega
    subst this
    exact wX12_layNews_2 ⟨fun _ => k I hag hI, fun q => absurd (by decide) q⟩
  | m + 1, i, I, hi, hag, hI => by
    refine wX12_layNews_2 ⟨fun q => absurd q (nI_ge (b := 5) (by omega) (by omega)), fun _ => ⟨vp_in_nI (by omega) (by omega), ?_⟩⟩
    rw [nI_clamp (by omega), nI_1]
    refine lay_init ha ht k m (i + 1) _ (by omega) (ag1_tr hag ag1_up) (fun j hj => ?_)
    rw [upI_at]
    by_cases e : j = i
    · subst e
      rw [if_pos ⟨rfl, rfl⟩]
      by_cases e2 : j = a
      · subst e2; rw [if_neg (fun q => q rfl), if_pos rfl]
      · rw [if_pos (fun q => e2 ((nI_eq (by omega) (by omega)).mp q)), if_neg e2]; rfl
    · rw [if_neg (fun q => e q.2)]; exact hI j (by omega)
theorem tX12_layNews {E : aE} {P : hI_ → hJ_ → Prop} {I : hI_} {J : hJ_} {a t : Nat} (h : Rel I) (ha : a < 5) (ht : t ≤ 10000) (k : ∀ I2, ag1 81 I I2 → (∀ j, j < 5 → I2 81 j = nI (arr (wI I) a t j)) → P I2 J) : CallV E mX12_layNews [.ref 68, .int (nI a), .int (nI t)] SH I J P := by
  refine wX12_layNews (lay_init ha ht (fun I2 g1 g2 => ?_) 5 0 I (by omega) ag1_rf (fun j hj => by omega))
  refine lay_out h k _ (fun j => if j = a then t else 10000) I2 1 g1 g2 ⟨?_, ?_, ?_, ?_⟩ (Or.inr ⟨rfl, Nat.le_refl _⟩)
  · intro j; dsimp only; split <;> omega
  · intro j hj hja; dsimp only; rw [if_neg hja]
  · dsimp only; rw [if_pos rfl]; exact Nat.le_refl t
  · intro F hF hFa v
    dsimp only
    by_cases e : v = a
    · rw [if_pos e, e]; exact hFa
    · rw [if_neg e]; exact hF.1 v
set_option maxHeartbeats 4000000 in
set_option maxRecDepth 20000 in
theorem wX12_news {E : aE} {P : Int32 → hI_ → hJ_ → Prop} {I : hI_} {J : hJ_} {a0 : Int32} {a1 : Int32} {a2 : Int32} (k : ((a2 < (10000 : Int32) → CallV E mX12_layNews [.ref 68, .int a0, .int a2] SH I J (fun I3 J4 => (vp_in a1 5) ∧ P (I3 81 a1.toNatClampNeg) I3 J4)) ∧ (¬ (a2 < (10000 : Int32)) → P (10000 : Int32) I J))) : CallI E mX12_news [.ref 68, .int a0, .int a1, .int a2] SH I J P := by
  refine Call_of (L := [.ref 68, .int a0, .int a1, .int a2]) ok_X12_news.1 rfl rfl ?_
  refine V_iload_n dX12_news_0 rfl ?_
  refine V_sipush (v := (10000 : Int32)) dX12_news_1 rfl ?_
  refine V_icmp_lt dX12_news_4 (fun c1 => ?_) (fun c1 => ?_)
  · have k := k.1 c1
    refine V_aload_n dX12_news_11 rfl ?_
    refine V_iload_n dX12_news_12 rfl ?_
    refine V_iload_n dX12_news_13 rfl ?_
    refine U_callV0 [.int a0, .int a2] dX12_news_14 ov_X12_175 s_68 rfl ⟨rfl, rfl, rfl⟩ rfl rfl rfl (CallV_mono k (fun I3 J4 k => ?_))
    refine V_aload_n dX12_news_17 rfl ?_
    refine U_getR dX12_news_18 fl_X12_46 s_68 rfl ?_
    refine V_iload_n dX12_news_21 rfl ?_
    obtain ⟨hb5, k⟩ := k
    refine U_iald dX12_news_22 s_81 hb5 ?_
    exact V_iret dX12_news_23 ⟨_, rfl, rfl⟩ rfl rfl ⟨_, _, _, rfl, rfl, k⟩
  · have k := k.2 c1
    refine V_sipush (v := (10000 : Int32)) dX12_news_7 rfl ?_
    exact V_iret dX12_news_10 ⟨_, rfl, rfl⟩ rfl rfl ⟨_, _, _, rfl, rfl, k⟩
theorem tX12_news {E : aE} {P : Int32 → hI_ → hJ_ → Prop} {I : hI_} {J : hJ_} {a b t : Nat} (h : Rel I) (ha : a < 5) (hb : b < 5) (ht : t ≤ 10000) (k : ∀ I2, ag1 81 I I2 → P (nI (arr (wI I) a t b)) I2 J) : CallI E mX12_news [.ref 68, .int (nI a), .int (nI b), .int (nI t)] SH I J P := by
  refine wX12_news ⟨fun c => ?_, fun c => ?_⟩
  · refine tX12_layNews h ha ht (fun I2 g1 g2 => ⟨vp_in_nI hb (by omega), ?_⟩)
    rw [nI_clamp (by omega), g2 b hb]
    exact k I2 g1
  · have c : ¬ t < 10000 := fun q => c (nI_lt (b := 10000) q (by omega))
    have := k I ag1_rf
    rw [arr_never (by omega)] at this
    exact this
set_option maxHeartbeats 4000000 in
set_option maxRecDepth 20000 in
theorem wX11_comes {E : aE} {P : Int32 → hI_ → hJ_ → Prop} {I : hI_} {J : hJ_} {a0 : Int32} {a1 : Int32} {a2 : Int32} (k : ((¬ (0 ≤ a0 ∧ a0 ≤ I 3 6 - 1) → P (-1 : Int32) I J) ∧ ((0 ≤ a0 ∧ a0 ≤ I 3 6 - 1) → ((¬ (0 ≤ a1 ∧ a1 ≤ I 3 6 - 1) → P (-1 : Int32) I J) ∧ ((0 ≤ a1 ∧ a1 ≤ I 3 6 - 1) → (((0 ≤ a2 ∧ a2 ≤ 999) → CallI E mX2_arrival [.ref 18, .int a0, .int a1, .int a2] SH I J (fun x4 I5 J6 => P (orN x4) I5 J6)) ∧ (¬ ((0 ≤ a2 ∧ a2 ≤ 999)) → P (-1 : Int32) I J))))))) : CallI E mX11_comes [.ref 0, .int a0, .int a1, .int a2] SH I J P := by
  refine Call_of (L := [.ref 0, .int a0, .int a1, .int a2]) ok_X11_comes.1 rfl rfl ?_
  refine V_aload_n dX11_comes_0 rfl ?_
  refine V_iload_n dX11_comes_1 rfl ?_
  refine U_callV1 [.int a0] dX11_comes_2 ov_X11_148 s_0 rfl ⟨rfl, rfl, rfl⟩ rfl rfl rfl (tX11_isPlace ?_)
  refine U_ifb_eq dX11_comes_5 (fun c1 => ?_) (fun c1 => ?_)
  · have k := k.1 c1
    refine V_iconst (v := (-1 : Int32)) dX11_comes_23 rfl ?_
    exact V_iret dX11_comes_24 ⟨_, rfl, rfl⟩ rfl rfl ⟨_, _, _, rfl, rfl, k⟩
  · have k := k.2 c1
    refine V_aload_n dX11_comes_8 rfl ?_
    refine V_iload_n dX11_comes_9 rfl ?_
    refine U_callV1 [.int a1] dX11_comes_10 ov_X11_148 s_0 rfl ⟨rfl, rfl, rfl⟩ rfl rfl rfl (tX11_isPlace ?_)
    refine U_ifb_eq dX11_comes_13 (fun c2 => ?_) (fun c2 => ?_)
    · have k := k.1 c2
      refine V_iconst (v := (-1 : Int32)) dX11_comes_23 rfl ?_
      exact V_iret dX11_comes_24 ⟨_, rfl, rfl⟩ rfl rfl ⟨_, _, _, rfl, rfl, k⟩
    · have k := k.2 c2
      refine V_iload_n dX11_comes_16 rfl ?_
      refine U_callS1 [.int a2] dX11_comes_17 os_X11_159 ⟨rfl, rfl, rfl⟩ rfl rfl rfl (tX11_isMinute ?_)
      refine U_ifb_ne dX11_comes_20 (fun c3 => ?_) (fun c3 => ?_)
      · have k := k.1 c3
        refine V_aload_n dX11_comes_25 rfl ?_
        refine U_getR dX11_comes_26 fl_X11_40 s_0 rfl ?_
        refine V_iload_n dX11_comes_29 rfl ?_
        refine V_iload_n dX11_comes_30 rfl ?_
        refine V_iload_n dX11_comes_31 rfl ?_
        refine U_callV1 [.int a0, .int a1, .int a2] dX11_comes_32 ov_X11_162 s_18 rfl ⟨rfl, rfl, rfl⟩ rfl rfl rfl (CallI_mono k (fun x4 I5 J6 k => ?_))
        refine U_callS1 [.int x4] dX11_comes_35 os_X11_166 ⟨rfl, rfl, rfl⟩ rfl rfl rfl (tX11_orNone ?_)
        exact V_iret dX11_comes_38 ⟨_, rfl, rfl⟩ rfl rfl ⟨_, _, _, rfl, rfl, k⟩
      · have k := k.2 c3
        refine V_iconst (v := (-1 : Int32)) dX11_comes_23 rfl ?_
        exact V_iret dX11_comes_24 ⟨_, rfl, rfl⟩ rfl rfl ⟨_, _, _, rfl, rfl, k⟩
set_option maxHeartbeats 4000000 in
set_option maxRecDepth 20000 in
theorem wX12_comes {E : aE} {P : Int32 → hI_ → hJ_ → Prop} {I : hI_} {J : hJ_} {a0 : Int32} {a1 : Int32} {a2 : Int32} (k : ((¬ (0 ≤ a0 ∧ a0 ≤ I 73 0 - 1) → P (-1 : Int32) I J) ∧ ((0 ≤ a0 ∧ a0 ≤ I 73 0 - 1) → ((¬ (0 ≤ a1 ∧ a1 ≤ I 73 0 - 1) → P (-1 : Int32) I J) ∧ ((0 ≤ a1 ∧ a1 ≤ I 73 0 - 1) → ((¬ (0 ≤ a2 ∧ a2 ≤ 999) → P (-1 : Int32) I J) ∧ ((0 ≤ a2 ∧ a2 ≤ 999) → CallI E mX12_news [.ref 68, .int a0, .int a1, .int a2] SH I J (fun x4 I5 J6 => P (orN x4) I5 J6)))))))) : CallI E mX12_comes [.ref 68, .int a0, .int a1, .int a2] SH I J P := by
  refine Call_of (L := [.ref 68, .int a0, .int a1, .int a2]) ok_X12_comes.1 rfl rfl ?_
  refine V_aload_n dX12_comes_0 rfl ?_
  refine V_iload_n dX12_comes_1 rfl ?_
  refine U_callV1 [.int a0] dX12_comes_2 ov_X12_167 s_68 rfl ⟨rfl, rfl, rfl⟩ rfl rfl rfl (tX12_isPlace ?_)
  refine U_ifb_eq dX12_comes_5 (fun c1 => ?_) (fun c1 => ?_)
  · have k := k.1 c1
    refine V_iconst (v := (-1 : Int32)) dX12_comes_36 rfl ?_
    exact V_iret dX12_comes_37 ⟨_, rfl, rfl⟩ rfl rfl ⟨_, _, _, rfl, rfl, k⟩
  · have k := k.2 c1
    refine V_aload_n dX12_comes_8 rfl ?_
    refine V_iload_n dX12_comes_9 rfl ?_
    refine U_callV1 [.int a1] dX12_comes_10 ov_X12_167 s_68 rfl ⟨rfl, rfl, rfl⟩ rfl rfl rfl (tX12_isPlace ?_)
    refine U_ifb_eq dX12_comes_13 (fun c2 => ?_) (fun c2 => ?_)
    · have k := k.1 c2
      refine V_iconst (v := (-1 : Int32)) dX12_comes_36 rfl ?_
      exact V_iret dX12_comes_37 ⟨_, rfl, rfl⟩ rfl rfl ⟨_, _, _, rfl, rfl, k⟩
    · have k := k.2 c2
      refine V_iload_n dX12_comes_16 rfl ?_
      refine U_callS1 [.int a2] dX12_comes_17 os_X12_179 ⟨rfl, rfl, rfl⟩ rfl rfl rfl (tX12_isMinute ?_)
      refine U_ifb_eq dX12_comes_20 (fun c3 => ?_) (fun c3 => ?_)
      · have k := k.1 c3
        refine V_iconst (v := (-1 : Int32)) dX12_comes_36 rfl ?_
        exact V_iret dX12_comes_37 ⟨_, rfl, rfl⟩ rfl rfl ⟨_, _, _, rfl, rfl, k⟩
      · have k := k.2 c3
        refine V_aload_n dX12_comes_23 rfl ?_
        refine V_iload_n dX12_comes_24 rfl ?_
        refine V_iload_n dX12_comes_25 rfl ?_
        refine V_iload_n dX12_comes_26 rfl ?_
        refine U_callV1 [.int a0, .int a1, .int a2] dX12_comes_27 ov_X12_182 s_68 rfl ⟨rfl, rfl, rfl⟩ rfl rfl rfl (CallI_mono k (fun x4 I5 J6 k => ?_))
        refine U_callS1 [.int x4] dX12_comes_30 os_X12_185 ⟨rfl, rfl, rfl⟩ rfl rfl rfl (tX12_orNone ?_)
        refine V_goto dX12_comes_33 ?_
        exact V_iret dX12_comes_37 ⟨_, rfl, rfl⟩ rfl rfl ⟨_, _, _, rfl, rfl, k⟩
theorem in999 {x : Int32} (h : 0 ≤ x ∧ x ≤ 999) : ∃ k : Nat, k ≤ 999 ∧ x = nI k := in_le (n := 999) rfl h
theorem op_comes {E : aE} {I : hI_} {J : hJ_} {P : hI_ → hJ_ → Prop} {a b t : Int32} (h : Rel I) (hP : ∀ I2 J2, Rel I2 → P I2 J2) : Op2 E mX11_comes mX12_comes [.int a, .int b, .int t] I J P := by
  have hp := Rel_P h
  have e := Rel_pl h
  refine wX11_comes ⟨fun c1 => ?_, fun c1 => ⟨fun c2 => ?_, fun c2 => ⟨fun c3 => ?_, fun c3 => ?_⟩⟩⟩
  · rw [e] at c1
    exact wX12_comes ⟨fun _ => ⟨rfl, hP I J h⟩, fun d1 => absurd d1 c1⟩
  · rw [e] at c1 c2
    exact wX12_comes ⟨fun d1 => absurd c1 d1, fun _ => ⟨fun _ => ⟨rfl, hP I J h⟩, fun d2 => absurd d2 c2⟩⟩
  · rw [e] at c1 c2
    have c1' := c1
    have c2' := c2
    rw [hp.2.1] at c1' c2'
    obtain ⟨x, hx, rfl⟩ := in_lt (by omega) c1'
    obtain ⟨y, hy, rfl⟩ := in_lt (by omega) c2'
    obtain ⟨z, hz, rfl⟩ := in999 c3
    refine tX2_arrival h hx hy (by omega) (fun I2 hag => ?_)
    have hX : agX I I2 := ag1_X rfl hag
    have hR := Rel_agX hX h
    have e73 : I2 73 = I 73 := hag 73 (by omega)
    refine wX12_comes ⟨fun d1 => absurd (by rw [e73]; exact c1) d1, fun _ => ⟨fun d2 => absurd (by rw [e73]; exact c2) d2, fun _ => ⟨fun d3 => absurd c3 d3, fun _ => ?_⟩⟩⟩
    refine tX12_news hR (by omega) (by omega) (by omega) (fun I3 hag3 => ⟨?_, hP I3 J (Rel_agM (ag1_M rfl (by omega) hag3) hR)⟩)
    rw [wI_X hX]
  · rw [e] at c1 c2
    exact wX12_comes ⟨fun d1 => absurd c1 d1, fun _ => ⟨fun d2 => absurd c2 d2, fun _ => ⟨fun _ => ⟨rfl, hP I J h⟩, fun d3 => absurd d3 c3⟩⟩⟩
