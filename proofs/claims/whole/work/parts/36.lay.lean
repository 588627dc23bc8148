theorem bv_sx (x : BitVec 32) (k n : Nat) (hk : k + n = 32) (hn : 0 < n) : (x <<< k).sshiftRight k = (x.setWidth n).signExtend 32 := by
  apply BitVec.eq_of_getLsbD_eq
  intro i hi
  rw [BitVec.getLsbD_sshiftRight, BitVec.getLsbD_signExtend, BitVec.getLsbD_shiftLeft, BitVec.getLsbD_setWidth, BitVec.msb_eq_getLsbD_last, BitVec.msb_eq_getLsbD_last, BitVec.getLsbD_shiftLeft, BitVec.getLsbD_setWidth]
  by_cases h : i < n
  · have e1 : k + i < 32 := by omega
    have e2 : ¬ (k + i < k) := by omega
    have e3 : k + i - k = i := by omega
    have e4 : ¬ (32 ≤ i) := by omega
    simp [h, hi, e1, e2, e3, e4]
  · have e1 : ¬ (k + i < 32) := by omega
    have e4 : ¬ (32 ≤ i) := by omega
    have e5 : ¬ (31 < k) := by omega
    have e6 : 31 - k = n - 1 := by omega
    have e7 : n - 1 < n := by omega
    simp [h, hi, e1, e4, e5, e6, e7]
theorem sx8 (x : Int32) : (x <<< ((24 : Int32) &&& 31)) >>> ((24 : Int32) &&& 31) = x.toInt8.toInt32 := by
  apply Int32.toBitVec_inj.mp
  rw [Int32.toBitVec_shiftRight, Int32.toBitVec_shiftLeft, Int8.toBitVec_toInt32, Int32.toBitVec_toInt8]
  have e : ((24 : Int32) &&& 31).toBitVec.smod 32 = 24#32 := by decide
  rw [e, BitVec.signExtend_eq_setWidth_of_le x.toBitVec (by omega : 8 ≤ 32)]
  exact bv_sx x.toBitVec 24 8 rfl (by omega)
theorem sx16 (x : Int32) : (x <<< ((16 : Int32) &&& 31)) >>> ((16 : Int32) &&& 31) = x.toInt16.toInt32 := by
  apply Int32.toBitVec_inj.mp
  rw [Int32.toBitVec_shiftRight, Int32.toBitVec_shiftLeft, Int16.toBitVec_toInt32, Int32.toBitVec_toInt16]
  have e : ((16 : Int32) &&& 31).toBitVec.smod 32 = 16#32 := by decide
  rw [e, BitVec.signExtend_eq_setWidth_of_le x.toBitVec (by omega : 16 ≤ 32)]
  exact bv_sx x.toBitVec 16 16 rfl (by omega)
/-- a sheet's cells in the class -/
def shC (k : Nat) : Nat := 60 + 2 * k
def shOK (I : hI_) (k : Nat) : Prop := RSheet (I (60 + 2 * k)) (I (61 + 2 * k)) (I 91) (I 92) (I 93) k
theorem Rel_shk {I : hI_} (h : Rel I) {k : Nat} (hk : k < 4) : shOK I k := by
  obtain ⟨h0, h1, h2, h3⟩ := h.2.2.2.2.2.1
  rcases (show k = 0 ∨ k = 1 ∨ k = 2 ∨ k = 3 by omega) with rfl | rfl | rfl | rfl
  · exact h0
  · exact h1
  · exact h2
  · exact h3
theorem Rel_sh {I I2 : hI_} (h : Rel I) (ho : ∀ a, (a < 60 ∨ 67 < a) → a ≠ 91 → a ≠ 92 → a ≠ 93 → I2 a = I a) (hs : ∀ k, k < 4 → shOK I2 k) : Rel I2 := by
  have hs' : RSheetI I2 := ⟨hs 0 (by omega), hs 1 (by omega), hs 2 (by omega), hs 3 (by omega)⟩
  have g : ∀ a, (a < 60 ∨ 67 < a) → a ≠ 91 → a ≠ 92 → a ≠ 93 → I2 a = I a := ho
  obtain ⟨r1, r2, r3, r4, r5, r6, r7, r8, r9⟩ := h
  unfold Rel
  refine ⟨?_, ?_, ?_, ?_, ?_, hs', ?_, ?_, ?_⟩
  · rw [g 1 (by omega) (by omega) (by omega) (by omega), g 68 (by omega) (by omega) (by omega) (by omega), g 2 (by omega) (by omega) (by omega) (by omega), g 69 (by omega) (by omega) (by omega) (by omega)]; exact r1
  · unfold RPlanI at r2 ⊢
    rw [g 3 (by omega) (by omega) (by omega) (by omega), g 4 (by omega) (by omega) (by omega) (by omega), g 5 (by omega) (by omega) (by omega) (by omega), g 6 (by omega) (by omega) (by omega) (by omega), g 7 (by omega) (by omega) (by omega) (by omega), g 8 (by omega) (by omega) (by omega) (by omega), g 9 (by omega) (by omega) (by omega) (by omega), g 73 (by omega) (by omega) (by omega) (by omega), g 74 (by omega) (by omega) (by omega) (by omega), g 75 (by omega) (by omega) (by omega) (by omega), g 76 (by omega) (by omega) (by omega) (by omega)]; exact r2
  · unfold RRows at r3 ⊢
    rw [g 22 (by omega) (by omega) (by omega) (by omega), g 24 (by omega) (by omega) (by omega) (by omega), g 26 (by omega) (by omega) (by omega) (by omega), g 47 (by omega) (by omega) (by omega) (by omega), g 49 (by omega) (by omega) (by omega) (by omega), g 51 (by omega) (by omega) (by omega) (by omega), g 54 (by omega) (by omega) (by omega) (by omega), g 56 (by omega) (by omega) (by omega) (by omega), g 58 (by omega) (by omega) (by omega) (by omega)]; exact r3
  · unfold RLedI wI at r4 ⊢
    rw [g 22 (by omega) (by omega) (by omega) (by omega), g 23 (by omega) (by omega) (by omega) (by omega), g 24 (by omega) (by omega) (by omega) (by omega), g 25 (by omega) (by omega) (by omega) (by omega), g 26 (by omega) (by omega) (by omega) (by omega), g 27 (by omega) (by omega) (by omega) (by omega), g 82 (by omega) (by omega) (by omega) (by omega), g 73 (by omega) (by omega) (by omega) (by omega), g 75 (by omega) (by omega) (by omega) (by omega), g 76 (by omega) (by omega) (by omega) (by omega)]; exact r4
  · unfold RImgI wI at r5 ⊢
    rw [g 46 (by omega) (by omega) (by omega) (by omega), g 90 (by omega) (by omega) (by omega) (by omega), g 47 (by omega) (by omega) (by omega) (by omega), g 48 (by omega) (by omega) (by omega) (by omega), g 49 (by omega) (by omega) (by omega) (by omega), g 50 (by omega) (by omega) (by omega) (by omega), g 51 (by omega) (by omega) (by omega) (by omega), g 52 (by omega) (by omega) (by omega) (by omega), g 82 (by omega) (by omega) (by omega) (by omega), g 73 (by omega) (by omega) (by omega) (by omega), g 75 (by omega) (by omega) (by omega) (by omega), g 76 (by omega) (by omega) (by omega) (by omega), g 53 (by omega) (by omega) (by omega) (by omega), g 54 (by omega) (by omega) (by omega) (by omega), g 55 (by omega) (by omega) (by omega) (by omega), g 56 (by omega) (by omega) (by omega) (by omega), g 57 (by omega) (by omega) (by omega) (by omega), g 58 (by omega) (by omega) (by omega) (by omega), g 59 (by omega) (by omega) (by omega) (by omega)]; exact r5
  · rw [g 70 (by omega) (by omega) (by omega) (by omega), g 71 (by omega) (by omega) (by omega) (by omega), g 72 (by omega) (by omega) (by omega) (by omega)]; exact r7
  · rw [g 0 (by omega) (by omega) (by omega) (by omega), g 68 (by omega) (by omega) (by omega) (by omega)]; exact r8
  · rw [g 0 (by omega) (by omega) (by omega) (by omega), g 68 (by omega) (by omega) (by omega) (by omega)]; exact r9
theorem sh_ref {k : Nat} (hk : k < 4) : ([63, 65, 67, 69] : List Nat).getD (nI k).toNatClampNeg 2 = (60 + 2 * k) + 3 ∧ SH[60 + 2 * k]? = some (.inr (6, [(61 + 2 * k) + 3, 0, 0])) ∧ SH[61 + 2 * k]? = some (.inl (0, 40, [])) := by
  rcases (show k = 0 ∨ k = 1 ∨ k = 2 ∨ k = 3 by omega) with rfl | rfl | rfl | rfl
  · exact ⟨rfl, s_60, s_61⟩
  · exact ⟨rfl, s_62, s_63⟩
  · exact ⟨rfl, s_64, s_65⟩
  · exact ⟨rfl, s_66, s_67⟩
theorem c40_nI (k j : Nat) : (40 : Int32) * nI k + nI j = nI (40 * k + j) := by rw [show (40 : Int32) = nI 40 from rfl, pk_mul, nI_add]
theorem flI_at {I : hI_} {a n b j : Nat} {v : Int32} : flI I a n v b j = if b = a ∧ j < n then v else I b j := by
  unfold flI
  by_cases h : b = a
  · subst h
    by_cases h2 : j < n <;> simp [h2]
  · simp [h]
set_option maxHeartbeats 4000000 in
set_option maxRecDepth 20000 in
theorem wX11_sheet {E : aE} {P : Int32 → hI_ → hJ_ → Prop} {I : hI_} {J : hJ_} {a0 : Int32} {a1 : Int32} {a2 : Int32} (k : ((¬ (0 ≤ a0 ∧ a0 ≤ 3) → P (-1 : Int32) I J) ∧ ((0 ≤ a0 ∧ a0 ≤ 3) → ((¬ (0 ≤ a1 ∧ a1 ≤ 2) → P (-1 : Int32) I J) ∧ ((0 ≤ a1 ∧ a1 ≤ 2) → ((a2 ≤ (40 : Int32) → (((0 : Int32) ≤ a2 → (vp_in a0 4) ∧ (∃ b6 b9 : Nat, ([63, 65, 67, 69].getD a0.toNatClampNeg 2 = b6 + 3) ∧ (SH[b6]? = some (.inr (6, [b9 + 3, 0, 0]))) ∧ (SH[b9]? = some (.inl (0, 40, []))) ∧ P (1 : Int32) (flI (upI (upI I b6 1 a1) b6 2 (jmin (jmax a2 0) 40)) b9 40 0) J)) ∧ (¬ ((0 : Int32) ≤ a2) → P (-14 : Int32) I J))) ∧ (¬ (a2 ≤ (40 : Int32)) → P (-1 : Int32) I J))))))) : CallI E mX11_sheet [.ref 0, .int a0, .int a1, .int a2] SH I J P := by
  refine Call_of (L := [.ref 0, .int a0, .int a1, .int a2]) ok_X11_sheet.1 rfl rfl ?_
  refine V_iload_n dX11_sheet_0 rfl ?_
  refine U_callS1 [.int a0] dX11_sheet_1 os_X11_314 ⟨rfl, rfl, rfl⟩ rfl rfl rfl (tX11_isSheet ?_)
  refine U_ifb_eq dX11_sheet_4 (fun c1 => ?_) (fun c1 => ?_)
  · have k := k.1 c1
    refine V_iconst (v := (-1 : Int32)) dX11_sheet_20 rfl ?_
    exact V_iret dX11_sheet_21 ⟨_, rfl, rfl⟩ rfl rfl ⟨_, _, _, rfl, rfl, k⟩
  · have k := k.2 c1
    refine V_iload_n dX11_sheet_7 rfl ?_
    refine U_callS1 [.int a1] dX11_sheet_8 os_X11_317 ⟨rfl, rfl, rfl⟩ rfl rfl rfl (tX11_isLane ?_)
    refine U_ifb_eq dX11_sheet_11 (fun c2 => ?_) (fun c2 => ?_)
    · have k := k.1 c2
      refine V_iconst (v := (-1 : Int32)) dX11_sheet_20 rfl ?_
      exact V_iret dX11_sheet_21 ⟨_, rfl, rfl⟩ rfl rfl ⟨_, _, _, rfl, rfl, k⟩
    · have k := k.2 c2
      refine V_iload_n dX11_sheet_14 rfl ?_
      refine V_bipush (v := (40 : Int32)) dX11_sheet_15 rfl ?_
      refine V_icmp_le dX11_sheet_17 (fun c3 => ?_) (fun c3 => ?_)
      · have k := k.1 c3
        refine V_iload_n dX11_sheet_22 rfl ?_
        refine V_if_ge dX11_sheet_23 (fun c4 => ?_) (fun c4 => ?_)
        · have k := k.1 c4
          refine V_aload_n dX11_sheet_29 rfl ?_
          refine U_getR dX11_sheet_30 fl_X11_91 s_0 rfl ?_
          refine V_iload_n dX11_sheet_33 rfl ?_
          obtain ⟨hb5, k⟩ := k
          obtain ⟨b6, b9, ha7, ha8, ha10, k⟩ := k
          refine U_aald1 (b := b6) dX11_sheet_34 s_45 hb5 ha7 ?_
          refine V_iload_n dX11_sheet_35 rfl ?_
          refine V_iload_n dX11_sheet_36 rfl ?_
          refine U_callV0 [.int a1, .int a2] dX11_sheet_37 ov_X11_320 ha8 rfl ⟨rfl, rfl, rfl⟩ rfl rfl rfl (tX6_renew ha8 ha10 ?_)
          refine V_iconst (v := (1 : Int32)) dX11_sheet_40 rfl ?_
          exact V_iret dX11_sheet_41 ⟨_, rfl, rfl⟩ rfl rfl ⟨_, _, _, rfl, rfl, k⟩
        · have k := k.2 c4
          refine V_bipush (v := (-14 : Int32)) dX11_sheet_26 rfl ?_
          exact V_iret dX11_sheet_28 ⟨_, rfl, rfl⟩ rfl rfl ⟨_, _, _, rfl, rfl, k⟩
      · have k := k.2 c3
        refine V_iconst (v := (-1 : Int32)) dX11_sheet_20 rfl ?_
        exact V_iret dX11_sheet_21 ⟨_, rfl, rfl⟩ rfl rfl ⟨_, _, _, rfl, rfl, k⟩
def HX12_sheet_56 (E : aE) (P : Int32 → hI_ → hJ_ → Prop) (v1 : Int32) (v4 : Int32) (I : hI_) (J : hJ_) : Prop := V E mX12_sheet (kI SH P) 56 [.ref 68, .int v1, .retAddr 0, .retAddr 0, .int v4] [] (SH, I, J) (0, 0)
set_option maxHeartbeats 4000000 in
set_option maxRecDepth 20000 in
theorem wX12_sheet {E : aE} {P : Int32 → hI_ → hJ_ → Prop} {I : hI_} {J : hJ_} {a0 : Int32} {a1 : Int32} {a2 : Int32} (k : ((¬ ((0 : Int32) ≤ a0 ∧ a0 ≤ (3 : Int32)) → P (-1 : Int32) I J) ∧ (((0 : Int32) ≤ a0 ∧ a0 ≤ (3 : Int32)) → ((¬ ((0 : Int32) ≤ a1 ∧ a1 ≤ (2 : Int32)) → P (-1 : Int32) I J) ∧ (((0 : Int32) ≤ a1 ∧ a1 ≤ (2 : Int32)) → ((a2 ≤ (40 : Int32) → (((0 : Int32) ≤ a2 → (vp_in a0 4) ∧ (vp_in a0 4) ∧ HX12_sheet_56 E P a0 (0 : Int32) (upI (upI I 91 a0.toNatClampNeg a1) 92 a0.toNatClampNeg a2) J) ∧ (¬ ((0 : Int32) ≤ a2) → P (-14 : Int32) I J))) ∧ (¬ (a2 ≤ (40 : Int32)) → P (-1 : Int32) I J))))))) : CallI E mX12_sheet [.ref 68, .int a0, .int a1, .int a2] SH I J P := by
  refine Call_of (L := [.ref 68, .int a0, .int a1, .int a2, .retAddr 0]) ok_X12_sheet.1 rfl rfl ?_
  refine V_iload_n dX12_sheet_0 rfl ?_
  refine V_i2l dX12_sheet_1 ?_
  refine V_lconst (v := (0 : Int64)) dX12_sheet_2 rfl ?_
  refine V_ldc2_w (v := (3 : Int64)) dX12_sheet_3 (gt_6 64 rfl rfl) ?_
  refine U_callS1 [.long a0.toInt64, .long (0 : Int64), .long (3 : Int64)] dX12_sheet_6 os_X12_91 ⟨rfl, rfl, rfl⟩ rfl rfl rfl (tX12_in32 (v := a0) (lo := (0 : Int32)) (hi := (3 : Int32)) rfl (by decide) (by decide) ?_)
  refine U_ifb_eq dX12_sheet_9 (fun c1 => ?_) (fun c1 => ?_)
  · have k := k.1 c1
    refine V_iconst (v := (-1 : Int32)) dX12_sheet_30 rfl ?_
    exact V_iret dX12_sheet_31 ⟨_, rfl, rfl⟩ rfl rfl ⟨_, _, _, rfl, rfl, k⟩
  · have k := k.2 c1
    refine V_iload_n dX12_sheet_12 rfl ?_
    refine V_i2l dX12_sheet_13 ?_
    refine V_lconst (v := (0 : Int64)) dX12_sheet_14 rfl ?_
    refine V_ldc2_w (v := (2 : Int64)) dX12_sheet_15 (gt_6 39 rfl rfl) ?_
    refine U_callS1 [.long a1.toInt64, .long (0 : Int64), .long (2 : Int64)] dX12_sheet_18 os_X12_91 ⟨rfl, rfl, rfl⟩ rfl rfl rfl (tX12_in32 (v := a1) (lo := (0 : Int32)) (hi := (2 : Int32)) rfl (by decide) (by decide) ?_)
    refine U_ifb_eq dX12_sheet_21 (fun c2 => ?_) (fun c2 => ?_)
    · have k := k.1 c2
      refine V_iconst (v := (-1 : Int32)) dX12_sheet_30 rfl ?_
      exact V_iret dX12_sheet_31 ⟨_, rfl, rfl⟩ rfl rfl ⟨_, _, _, rfl, rfl, k⟩
    · have k := k.2 c2
      refine V_iload_n dX12_sheet_24 rfl ?_
      refine V_bipush (v := (40 : Int32)) dX12_sheet_25 rfl ?_
      refine V_icmp_le dX12_sheet_27 (fun c3 => ?_) (fun c3 => ?_)
      · have k := k.1 c3
        refine V_iload_n dX12_sheet_32 rfl ?_
        refine V_if_ge dX12_sheet_33 (fun c4 => ?_) (fun c4 => ?_)
        · have k := k.1 c4
          refine V_aload_n dX12_sheet_39 rfl ?_
          refine U_getR dX12_sheet_40 fl_X12_78 s_68 rfl ?_
          refine V_iload_n dX12_sheet_43 rfl ?_
          refine V_iload_n dX12_sheet_44 rfl ?_
          obtain ⟨hb5, k⟩ := k
          refine U_iast dX12_sheet_45 s_91 hb5 ?_
          refine V_aload_n dX12_sheet_46 rfl ?_
          refine U_getR dX12_sheet_47 fl_X12_81 s_68 rfl ?_
          refine V_iload_n dX12_sheet_50 rfl ?_
          refine V_iload_n dX12_sheet_51 rfl ?_
          obtain ⟨hb6, k⟩ := k
          refine U_iast dX12_sheet_52 s_92 hb6 ?_
          refine V_iconst (v := (0 : Int32)) dX12_sheet_53 rfl ?_
          refine U_istore (L2 := [.ref 68, .int a0, .int a1, .int a2, .int (0 : Int32)]) dX12_sheet_54 (by decide) rfl ?_
          exact V_wk (wk_eq (wk_eq (wk_j (wk_j (wk_eq (wk_nil)))))) k
        · have k := k.2 c4
          refine V_bipush (v := (-14 : Int32)) dX12_sheet_36 rfl ?_
          exact V_iret dX12_sheet_38 ⟨_, rfl, rfl⟩ rfl rfl ⟨_, _, _, rfl, rfl, k⟩
      · have k := k.2 c3
        refine V_iconst (v := (-1 : Int32)) dX12_sheet_30 rfl ?_
        exact V_iret dX12_sheet_31 ⟨_, rfl, rfl⟩ rfl rfl ⟨_, _, _, rfl, rfl, k⟩
set_option maxHeartbeats 4000000 in
set_option maxRecDepth 20000 in
theorem wX12_sheet_56 {E : aE} {P : Int32 → hI_ → hJ_ → Prop} {I : hI_} {J : hJ_} {v1 : Int32} {v4 : Int32} (k : (((40 : Int32) ≤ v4 → P (1 : Int32) I J) ∧ (¬ ((40 : Int32) ≤ v4) → (vp_in (((40 : Int32) * v1) + v4) 160) ∧ HX12_sheet_56 E P v1 (v4 + (1 : Int32)) (upI I 93 ((((40 : Int32) * v1) + v4).toNatClampNeg) (0 : Int32)) J))) : HX12_sheet_56 E P v1 v4 I J := by
  show V E mX12_sheet (kI SH P) 56 [.ref 68, .int v1, .retAddr 0, .retAddr 0, .int v4] [] (SH, I, J) (0, 0)
  refine V_iload dX12_sheet_56 rfl ?_
  refine V_bipush (v := (40 : Int32)) dX12_sheet_58 rfl ?_
  refine V_icmp_ge dX12_sheet_60 (fun c1 => ?_) (fun c1 => ?_)
  · have k := k.1 c1
    refine V_iconst (v := (1 : Int32)) dX12_sheet_82 rfl ?_
    exact V_iret dX12_sheet_83 ⟨_, rfl, rfl⟩ rfl rfl ⟨_, _, _, rfl, rfl, k⟩
  · have k := k.2 c1
    refine V_aload_n dX12_sheet_63 rfl ?_
    refine U_getR dX12_sheet_64 fl_X12_84 s_68 rfl ?_
    refine V_bipush (v := (40 : Int32)) dX12_sheet_67 rfl ?_
    refine V_iload_n dX12_sheet_69 rfl ?_
    refine V_imul dX12_sheet_70 ?_
    refine V_iload dX12_sheet_71 rfl ?_
    refine V_iadd dX12_sheet_73 ?_
    refine V_iconst (v := (0 : Int32)) dX12_sheet_74 rfl ?_
    obtain ⟨hb2, k⟩ := k
    refine U_iast dX12_sheet_75 s_93 hb2 ?_
    refine U_iinc (v := v4 + (1 : Int32)) (L2 := [.ref 68, .int v1, .retAddr 0, .retAddr 0, .int (v4 + (1 : Int32))]) dX12_sheet_76 (by decide) rfl rfl rfl ?_
    refine V_goto dX12_sheet_79 ?_
    exact k
theorem sheetM_loop {E : aE} {P : Int32 → hI_ → hJ_ → Prop} {I0 : hI_} {J : hJ_} {k : Nat} (hk : k < 4) (kk : ∀ I2, (∀ a, a ≠ 93 → I2 a = I0 a) → (∀ j, j < 40 → I2 93 (40 * k + j) = 0) → (∀ j, (j < 40 * k ∨ 40 * k + 40 ≤ j) → I2 93 j = I0 93 j) → P 1 I2 J) : ∀ (m i : Nat) (I : hI_), i + m = 40 → (∀ a, a ≠ 93 → I a = I0 a) → (∀ j, j < i → I 93 (40 * k + j) = 0) → (∀ j, (j < 40 * k ∨ 40 * k + 40 ≤ j) → I 93 j = I0 93 j) → HX12_sheet_56 E P (nI k) (nI i) I J
  | 0, i, I, hi, h1, h2, h3 => wX12_sheet_56 ⟨fun _ => kk I h1 (fun j hj => h2 j (by omega)) h3, fun z => absurd (nI_le (a := 40) (by omega) (by omega)) z⟩
  | m + 1, i, I, hi, h1, h2, h3 => by
    refine wX12_sheet_56 ⟨fun z => absurd z (nI_ge (b := 40) (by omega) (by omega)), fun _ => ?_⟩
    rw [c40_nI, nI_1, nI_clamp (by omega)]
    refine ⟨vp_in_nI (by omega) (by omega), sheetM_loop hk kk m (i + 1) _ (by omega) (fun a ha => ?_) (fun j hj => ?_) (fun j hj => ?_)⟩
    · rw [← h1 a ha]; funext j; rw [upI_at, if_neg (fun z => ha z.1)]
    · rw [upI_at]
      by_cases e : j = i
      · rw [e, if_pos ⟨rfl, rfl⟩]
      · rw [if_neg (by omega)]; exact h2 j (by omega)
    · rw [upI_at, if_neg (by omega)]; exact h3 j hj
theorem op_sheet {E : aE} {I : hI_} {J : hJ_} {P : hI_ → hJ_ → Prop} {a0 a1 a2 : Int32} (h : Rel I) (hP : ∀ I2 J2, Rel I2 → P I2 J2) : Op2 E mX11_sheet mX12_sheet [.int a0, .int a1, .int a2] I J P := by
  have k := hP I J h
  refine wX11_sheet ⟨fun c1 => wX12_sheet ⟨fun _ => ⟨rfl, k⟩, fun d => absurd d c1⟩, fun c1 => ⟨fun c2 => wX12_sheet ⟨fun _ => ⟨rfl, k⟩, fun _ => ⟨fun _ => ⟨rfl, k⟩, fun d => absurd d c2⟩⟩, fun c2 => ⟨fun c3 => ⟨fun c4 => ?_, fun c4 => wX12_sheet ⟨fun d => absurd c1 d, fun _ => ⟨fun d => absurd c2 d, fun _ => ⟨fun _ => ⟨fun d => absurd d c4, fun _ => ⟨rfl, k⟩⟩, fun d => absurd c3 d⟩⟩⟩⟩, fun c3 => wX12_sheet ⟨fun d => absurd c1 d, fun _ => ⟨fun d => absurd c2 d, fun _ => ⟨fun d => absurd d c3, fun _ => ⟨rfl, k⟩⟩⟩⟩⟩⟩⟩
  obtain ⟨x, hx, rfl⟩ := in_le (n := 3) rfl c1
  obtain ⟨n, hn, rfl⟩ := in_le (n := 40) rfl ⟨c4, c3⟩
  obtain ⟨q1, q2, q3⟩ := sh_ref (k := x) (by omega)
  refine ⟨vp_in_nI (by omega) (by omega), 60 + 2 * x, 61 + 2 * x, q1, q2, q3, ?_⟩
  have ej : jmin (jmax (nI n) 0) 40 = nI n := by
    rw [show (0 : Int32) = nI 0 from rfl, show (40 : Int32) = nI 40 from rfl, jmax_nI (by omega) (by omega), jmin_nI (by omega) (by omega), show min (max n 0) 40 = n by omega]
  rw [ej]
  generalize hF : flI (upI (upI I (60 + 2 * x) 1 a1) (60 + 2 * x) 2 (nI n)) (61 + 2 * x) 40 0 = F
  have Fo : ∀ a, a ≠ 60 + 2 * x → a ≠ 61 + 2 * x → F a = I a := fun a e1 e2 => by
    funext j; rw [← hF, flI_at, if_neg (fun z => e2 z.1), upI_at, if_neg (fun z => e1 z.1), upI_at, if_neg (fun z => e1 z.1)]
  have F1 : F (60 + 2 * x) 1 = a1 := by rw [← hF, flI_at, if_neg (by omega), upI_at, if_neg (by omega)]; exact upI_same
  have F2 : F (60 + 2 * x) 2 = nI n := by rw [← hF, flI_at, if_neg (by omega)]; exact upI_same
  have F3 : ∀ j, j < 40 → F (61 + 2 * x) j = 0 := fun j hj => by rw [← hF, flI_at, if_pos ⟨rfl, hj⟩]
  refine wX12_sheet ⟨fun d => absurd c1 d, fun _ => ⟨fun d => absurd c2 d, fun _ => ⟨fun _ => ⟨fun _ => ⟨vp_in_nI (by omega) (by omega), vp_in_nI (by omega) (by omega), ?_⟩, fun d => absurd c4 d⟩, fun d => absurd c3 d⟩⟩⟩
  rw [nI_clamp (by omega)]
  refine sheetM_loop (k := x) (by omega) (fun I2 g1 g2 g3 => ⟨rfl, hP I2 J ?_⟩) 40 0 _ (by omega) (fun _ _ => rfl) (fun j hj => by omega) (fun _ _ => rfl)
  have G : ∀ a, a ≠ 60 + 2 * x → a ≠ 61 + 2 * x → a ≠ 91 → a ≠ 92 → a ≠ 93 → I2 a = I a := fun a e1 e2 e3 e4 e5 => by
    rw [g1 a e5, ← Fo a e1 e2]; funext j; rw [upI_at, if_neg (fun z => e4 z.1), upI_at, if_neg (fun z => e3 z.1)]
  have G60 : ∀ a, a < 90 → I2 a = F a := fun a ha => by
    rw [g1 a (by omega)]; funext j; rw [upI_at, if_neg (by omega), upI_at, if_neg (by omega)]
  have G91 : ∀ j, I2 91 j = if j = x then a1 else I 91 j := fun j => by
    rw [g1 91 (by omega), upI_at, if_neg (by omega), upI_at, Fo 91 (by omega) (by omega)]
    by_cases e : j = x
    · rw [if_pos ⟨rfl, e⟩, if_pos e]
    · rw [if_neg (fun z => e z.2), if_neg e]
  have G92 : ∀ j, I2 92 j = if j = x then nI n else I 92 j := fun j => by
    rw [g1 92 (by omega), upI_at]
    by_cases e : j = x
    · rw [if_pos ⟨rfl, e⟩, if_pos e]
    · rw [if_neg (fun z => e z.2), if_neg e, upI_at, if_neg (by omega), Fo 92 (by omega) (by omega)]
  have G93 : ∀ j, (j < 40 * x ∨ 40 * x + 40 ≤ j) → I2 93 j = I 93 j := fun j hj => by
    rw [g3 j hj, upI_at, if_neg (by omega), upI_at, if_neg (by omega), Fo 93 (by omega) (by omega)]
  refine Rel_sh h (fun a e1 e2 e3 e4 => G a (by omega) (by omega) e2 e3 e4) (fun y hy => ?_)
  unfold shOK RSheet
  by_cases e : y = x
  · subst e
    rw [G91, G92, if_pos rfl, if_pos rfl, G60 _ (by omega), G60 _ (by omega), F1, F2]
    refine ⟨Or.inr ⟨rfl, bet_of c2 rfl rfl⟩, rfl, ⟨by rw [nI_toInt (by omega)]; omega, by rw [nI_toInt (by omega)]; omega⟩, fun i hi => ?_⟩
    rw [F3 i hi, g2 i hi]
  · rw [G91, G92, if_neg e, if_neg e, G _ (by omega) (by omega) (by omega) (by omega) (by omega), G _ (by omega) (by omega) (by omega) (by omega) (by omega)]
    obtain ⟨s1, s2, s3, s4⟩ := Rel_shk h hy
    refine ⟨s1, s2, s3, fun i hi => ?_⟩
    rw [G93 _ (by omega)]; exact s4 i hi
set_option maxHeartbeats 4000000 in
set_option maxRecDepth 20000 in
theorem wX11_lay {E : aE} {P : Int32 → hI_ → hJ_ → Prop} {I : hI_} {J : hJ_} {a0 : Int32} {a1 : Int32} {a2 : Int32} (k : (((0 ≤ a0 ∧ a0 ≤ 3) → (vp_in a0 4) ∧ (∃ b3 b6 : Nat, ([63, 65, 67, 69].getD a0.toNatClampNeg 2 = b3 + 3) ∧ (SH[b3]? = some (.inr (6, [b6 + 3, 0, 0]))) ∧ (SH[b6]? = some (.inl (0, 40, []))) ∧ ((¬ (I b3 1 = -1) → (vp_in a0 4) ∧ (∃ b10 b13 : Nat, ([63, 65, 67, 69].getD a0.toNatClampNeg 2 = b10 + 3) ∧ (SH[b10]? = some (.inr (6, [b13 + 3, 0, 0]))) ∧ (SH[b13]? = some (.inl (0, 40, []))) ∧ (I b10 2 ≤ 40) ∧ P (if ¬ (0 ≤ a1 ∧ a1 < I b10 2) then (-12 : Int32) else (1 : Int32)) (shPut I b10 b13 a1 a2) J)) ∧ ((I b3 1 = -1) → P (-11 : Int32) I J)))) ∧ (¬ ((0 ≤ a0 ∧ a0 ≤ 3)) → P (-1 : Int32) I J))) : CallI E mX11_lay [.ref 0, .int a0, .int a1, .int a2] SH I J P := by
  refine Call_of (L := [.ref 0, .int a0, .int a1, .int a2]) ok_X11_lay.1 rfl rfl ?_
  refine V_iload_n dX11_lay_0 rfl ?_
  refine U_callS1 [.int a0] dX11_lay_1 os_X11_314 ⟨rfl, rfl, rfl⟩ rfl rfl rfl (tX11_isSheet ?_)
  refine U_ifb_ne dX11_lay_4 (fun c1 => ?_) (fun c1 => ?_)
  · have k := k.1 c1
    refine V_aload_n dX11_lay_9 rfl ?_
    refine U_getR dX11_lay_10 fl_X11_91 s_0 rfl ?_
    refine V_iload_n dX11_lay_13 rfl ?_
    obtain ⟨hb2, k⟩ := k
    obtain ⟨b3, b6, ha4, ha5, ha7, k⟩ := k
    refine U_aald1 (b := b3) dX11_lay_14 s_45 hb2 ha4 ?_
    refine U_callV1 [] dX11_lay_15 ov_X11_323 ha5 rfl ⟨rfl, rfl, rfl⟩ rfl rfl rfl (tX6_isNothing ha5 ha7 ?_)
    refine U_ifb_eq dX11_lay_18 (fun c8 => ?_) (fun c8 => ?_)
    · have k := k.1 c8
      refine V_aload_n dX11_lay_24 rfl ?_
      refine U_getR dX11_lay_25 fl_X11_91 s_0 rfl ?_
      refine V_iload_n dX11_lay_28 rfl ?_
      obtain ⟨hb9, k⟩ := k
      obtain ⟨b10, b13, ha11, ha12, ha14, k⟩ := k
      refine U_aald1 (b := b10) dX11_lay_29 s_45 hb9 ha11 ?_
      refine V_iload_n dX11_lay_30 rfl ?_
      refine V_iload_n dX11_lay_31 rfl ?_
      obtain ⟨hp15, k⟩ := k
      refine U_callV1 [.int a1, .int a2] dX11_lay_32 ov_X11_327 ha12 rfl ⟨rfl, rfl, rfl⟩ rfl rfl rfl (tX6_put ha12 ha14 hp15 ?_)
      have key16 : ∀ (y2017 : Int32), y2017 = (if ¬ (0 ≤ a1 ∧ a1 < I b10 2) then (-12 : Int32) else (1 : Int32)) → V E mX11_lay (kI SH P) 44 [.ref 0, .int a0, .int a1, .int a2] [.int y2017] (SH, shPut I b10 b13 a1 a2, J) (0, 0) := by
        intro y2017 ey2017
        subst ey2017
        exact V_iret dX11_lay_44 ⟨_, rfl, rfl⟩ rfl rfl ⟨_, _, _, rfl, rfl, k⟩
      refine U_ifb_eq dX11_lay_35 (fun c2018 => ?_) (fun c2018 => ?_)
      · refine V_bipush (v := (-12 : Int32)) dX11_lay_42 rfl ?_
        exact key16 _ (by rw [if_pos c2018])
      · refine V_iconst (v := (1 : Int32)) dX11_lay_38 rfl ?_
        refine V_goto dX11_lay_39 ?_
        exact key16 _ (by rw [if_neg (not_not_intro c2018)])
    · have k := k.2 c8
      refine V_bipush (v := (-11 : Int32)) dX11_lay_21 rfl ?_
      exact V_iret dX11_lay_23 ⟨_, rfl, rfl⟩ rfl rfl ⟨_, _, _, rfl, rfl, k⟩
  · have k := k.2 c1
    refine V_iconst (v := (-1 : Int32)) dX11_lay_7 rfl ?_
    exact V_iret dX11_lay_8 ⟨_, rfl, rfl⟩ rfl rfl ⟨_, _, _, rfl, rfl, k⟩
set_option maxHeartbeats 4000000 in
set_option maxRecDepth 20000 in
theorem wX12_lay {E : aE} {P : Int32 → hI_ → hJ_ → Prop} {I : hI_} {J : hJ_} {a0 : Int32} {a1 : Int32} {a2 : Int32} (k : ((((0 : Int32) ≤ a0 ∧ a0 ≤ (3 : Int32)) → (vp_in a0 4) ∧ ((¬ (I 91 a0.toNatClampNeg) = (-4 : Int32) → (vp_in a0 4) ∧ ((((0 : Int32) ≤ a1 ∧ a1 ≤ ((I 92 a0.toNatClampNeg) - (1 : Int32))) → (vp_in a0 4) ∧ ((¬ (I 91 a0.toNatClampNeg) = (0 : Int32)) → vp_in a0 4) ∧ (vp_in (((40 : Int32) * a0) + a1) 160) ∧ P (1 : Int32) (upI I 93 ((((40 : Int32) * a0) + a1).toNatClampNeg) (if ¬ (I 91 a0.toNatClampNeg) = (0 : Int32) then (if ¬ (I 91 a0.toNatClampNeg) = (1 : Int32) then a2 else ((a2 <<< ((16 : Int32) &&& 31)) >>> ((16 : Int32) &&& 31))) else ((a2 <<< ((24 : Int32) &&& 31)) >>> ((24 : Int32) &&& 31)))) J) ∧ (¬ (((0 : Int32) ≤ a1 ∧ a1 ≤ ((I 92 a0.toNatClampNeg) - (1 : Int32)))) → P (-12 : Int32) I J))) ∧ ((I 91 a0.toNatClampNeg) = (-4 : Int32) → P (-11 : Int32) I J))) ∧ (¬ (((0 : Int32) ≤ a0 ∧ a0 ≤ (3 : Int32))) → P (-1 : Int32) I J))) : CallI E mX12_lay [.ref 68, .int a0, .int a1, .int a2] SH I J P := by
  refine Call_of (L := [.ref 68, .int a0, .int a1, .int a2]) ok_X12_lay.1 rfl rfl ?_
  refine V_iload_n dX12_lay_0 rfl ?_
  refine V_i2l dX12_lay_1 ?_
  refine V_lconst (v := (0 : Int64)) dX12_lay_2 rfl ?_
  refine V_ldc2_w (v := (3 : Int64)) dX12_lay_3 (gt_6 64 rfl rfl) ?_
  refine U_callS1 [.long a0.toInt64, .long (0 : Int64), .long (3 : Int64)] dX12_lay_6 os_X12_91 ⟨rfl, rfl, rfl⟩ rfl rfl rfl (tX12_in32 (v := a0) (lo := (0 : Int32)) (hi := (3 : Int32)) rfl (by decide) (by decide) ?_)
  refine U_ifb_ne dX12_lay_9 (fun c1 => ?_) (fun c1 => ?_)
  · have k := k.1 c1
    refine V_aload_n dX12_lay_14 rfl ?_
    refine U_getR dX12_lay_15 fl_X12_78 s_68 rfl ?_
    refine V_iload_n dX12_lay_18 rfl ?_
    obtain ⟨hb2, k⟩ := k
    refine U_iald dX12_lay_19 s_91 hb2 ?_
    refine V_bipush (v := (-4 : Int32)) dX12_lay_20 rfl ?_
    refine V_icmp_ne dX12_lay_22 (fun c3 => ?_) (fun c3 => ?_)
    · have k := k.1 c3
      refine V_iload_n dX12_lay_28 rfl ?_
      refine V_i2l dX12_lay_29 ?_
      refine V_lconst (v := (0 : Int64)) dX12_lay_30 rfl ?_
      refine V_aload_n dX12_lay_31 rfl ?_
      refine U_getR dX12_lay_32 fl_X12_81 s_68 rfl ?_
      refine V_iload_n dX12_lay_35 rfl ?_
      obtain ⟨hb4, k⟩ := k
      refine U_iald dX12_lay_36 s_92 hb4 ?_
      refine V_iconst (v := (1 : Int32)) dX12_lay_37 rfl ?_
      refine V_isub dX12_lay_38 ?_
      refine V_i2l dX12_lay_39 ?_
      refine U_callS1 [.long a1.toInt64, .long (0 : Int64), .long (((I 92 a0.toNatClampNeg) - (1 : Int32)).toInt64)] dX12_lay_40 os_X12_91 ⟨rfl, rfl, rfl⟩ rfl rfl rfl (tX12_in32 (v := a1) (lo := (0 : Int32)) (hi := ((I 92 a0.toNatClampNeg) - (1 : Int32))) rfl (by decide) rfl ?_)
      refine U_ifb_ne dX12_lay_43 (fun c5 => ?_) (fun c5 => ?_)
      · have k := k.1 c5
        refine V_aload_n dX12_lay_49 rfl ?_
        refine U_getR dX12_lay_50 fl_X12_84 s_68 rfl ?_
        refine V_bipush (v := (40 : Int32)) dX12_lay_53 rfl ?_
        refine V_iload_n dX12_lay_55 rfl ?_
        refine V_imul dX12_lay_56 ?_
        refine V_iload_n dX12_lay_57 rfl ?_
        refine V_iadd dX12_lay_58 ?_
        refine V_aload_n dX12_lay_59 rfl ?_
        refine U_getR dX12_lay_60 fl_X12_78 s_68 rfl ?_
        refine V_iload_n dX12_lay_63 rfl ?_
        obtain ⟨hb6, k⟩ := k
        refine U_iald dX12_lay_64 s_91 hb6 ?_
        obtain ⟨hc2010, k⟩ := k
        have key7 : ∀ (y2009 : Int32), y2009 = (if ¬ (I 91 a0.toNatClampNeg) = (0 : Int32) then (if ¬ (I 91 a0.toNatClampNeg) = (1 : Int32) then a2 else ((a2 <<< ((16 : Int32) &&& 31)) >>> ((16 : Int32) &&& 31))) else ((a2 <<< ((24 : Int32) &&& 31)) >>> ((24 : Int32) &&& 31))) → V E mX12_lay (kI SH P) 99 [.ref 68, .int a0, .int a1, .int a2] [.int y2009, .int (((40 : Int32) * a0) + a1), .ref 93] (SH, I, J) (0, 0) := by
          intro y2009 ey2009
          subst ey2009
          obtain ⟨hb2011, k⟩ := k
          refine U_iast dX12_lay_99 s_93 hb2011 ?_
          refine V_iconst (v := (1 : Int32)) dX12_lay_100 rfl ?_
          exact V_iret dX12_lay_101 ⟨_, rfl, rfl⟩ rfl rfl ⟨_, _, _, rfl, rfl, k⟩
        refine V_if_ne dX12_lay_65 (fun c2012 => ?_) (fun c2012 => ?_)
        · refine V_aload_n dX12_lay_78 rfl ?_
          refine U_getR dX12_lay_79 fl_X12_78 s_68 rfl ?_
          refine V_iload_n dX12_lay_82 rfl ?_
          have hb1008 := hc2010 c2012
          refine U_iald dX12_lay_83 s_91 hb1008 ?_
          refine V_iconst (v := (1 : Int32)) dX12_lay_84 rfl ?_
          refine V_icmp_ne dX12_lay_85 (fun c2013 => ?_) (fun c2013 => ?_)
          · refine V_iload_n dX12_lay_98 rfl ?_
            exact key7 _ (by rw [if_pos c2012, if_pos c2013])
          · refine V_iload_n dX12_lay_88 rfl ?_
            refine V_bipush (v := (16 : Int32)) dX12_lay_89 rfl ?_
            refine V_ishl dX12_lay_91 ?_
            refine V_bipush (v := (16 : Int32)) dX12_lay_92 rfl ?_
            refine V_ishr dX12_lay_94 ?_
            refine V_goto dX12_lay_95 ?_
            exact key7 _ (by rw [if_pos c2012, if_neg (not_not_intro c2013)])
        · refine V_iload_n dX12_lay_68 rfl ?_
          refine V_bipush (v := (24 : Int32)) dX12_lay_69 rfl ?_
          refine V_ishl dX12_lay_71 ?_
          refine V_bipush (v := (24 : Int32)) dX12_lay_72 rfl ?_
          refine V_ishr dX12_lay_74 ?_
          refine V_goto dX12_lay_75 ?_
          exact key7 _ (by rw [if_neg (not_not_intro c2012)])
      · have k := k.2 c5
        refine V_bipush (v := (-12 : Int32)) dX12_lay_46 rfl ?_
        exact V_iret dX12_lay_48 ⟨_, rfl, rfl⟩ rfl rfl ⟨_, _, _, rfl, rfl, k⟩
    · have k := k.2 c3
      refine V_bipush (v := (-11 : Int32)) dX12_lay_25 rfl ?_
      exact V_iret dX12_lay_27 ⟨_, rfl, rfl⟩ rfl rfl ⟨_, _, _, rfl, rfl, k⟩
  · have k := k.2 c1
    refine V_iconst (v := (-1 : Int32)) dX12_lay_12 rfl ?_
    exact V_iret dX12_lay_13 ⟨_, rfl, rfl⟩ rfl rfl ⟨_, _, _, rfl, rfl, k⟩
theorem op_lay {E : aE} {I : hI_} {J : hJ_} {P : hI_ → hJ_ → Prop} {a0 a1 a2 : Int32} (h : Rel I) (hP : ∀ I2 J2, Rel I2 → P I2 J2) : Op2 E mX11_lay mX12_lay [.int a0, .int a1, .int a2] I J P := by
  have k := hP I J h
  refine wX11_lay ⟨fun c1 => ?_, fun c1 => wX12_lay ⟨fun d => absurd d c1, fun _ => ⟨rfl, k⟩⟩⟩
  obtain ⟨x, hx, rfl⟩ := in_le (n := 3) rfl c1
  obtain ⟨q1, q2, q3⟩ := sh_ref (k := x) (by omega)
  obtain ⟨s1, s2, s3, s4⟩ := Rel_shk h (k := x) (by omega)
  have vx : vp_in (nI x) 4 := vp_in_nI (by omega) (by omega)
  have cx : (nI x).toNatClampNeg = x := nI_clamp (by omega)
  refine ⟨vx, 60 + 2 * x, 61 + 2 * x, q1, q2, q3, fun c2 => ?_, fun c2 => ?_⟩
  · obtain ⟨l1, l2⟩ : I (60 + 2 * x) 1 = I 91 x ∧ bet 0 (I 91 x) 2 := by
      rcases s1 with s1 | s1
      · exact absurd s1.1 c2
      · exact s1
    have hl : ¬ I 91 x = -4 := fun z => by rw [z] at l2; exact absurd l2.1 (by decide)
    have e92 : I 92 x = nI (I 92 x).toInt.toNat := ofT s3.1
    generalize hn : (I 92 x).toInt.toNat = n at e92
    have hn40 : n ≤ 40 := by have := s3.2; omega
    refine ⟨vx, 60 + 2 * x, 61 + 2 * x, q1, q2, q3, ?_, ?_⟩
    · rw [s2, e92]; exact nI_le (b := 40) (by omega) (by omega)
    · by_cases c3 : 0 ≤ a1 ∧ a1 < I (60 + 2 * x) 2
      · rw [if_neg (fun z => z c3)]
        have c3' := c3
        rw [s2, e92] at c3'
        have hin : ∃ i : Nat, i < n ∧ a1 = nI i := by
          have h1 := Int32.le_iff_toInt_le.mp c3'.1
          have h2 := Int32.lt_iff_toInt_lt.mp c3'.2
          rw [nI_toInt (by omega)] at h2
          have h0 : (0 : Int32).toInt = 0 := rfl
          exact ⟨a1.toInt.toNat, by omega, ofT (by omega)⟩
        obtain ⟨i, hi, rfl⟩ := hin
        have eS : shPut I (60 + 2 * x) (61 + 2 * x) (nI i) a2 = upI I (61 + 2 * x) i (lnv (I 91 x) a2) := by
          unfold shPut
          rw [if_pos c3, nI_clamp (by omega), l1]
        rw [eS]
        have t91 : (upI I (61 + 2 * x) i (lnv (I 91 x) a2)) 91 = I 91 := by funext j; rw [upI_at, if_neg (by omega)]
        have t92 : (upI I (61 + 2 * x) i (lnv (I 91 x) a2)) 92 = I 92 := by funext j; rw [upI_at, if_neg (by omega)]
        have good : 0 ≤ nI i ∧ nI i ≤ nI n - 1 := by
          rw [show n = (n - 1) + 1 by omega, nI_pred]
          exact ⟨nI_pos' (by omega), nI_le (by omega) (by omega)⟩
        refine wX12_lay ⟨fun _ => ⟨vx, fun _ => ⟨vx, fun _ => ⟨vx, fun _ => vx, ?_, rfl, hP _ _ ?_⟩, fun d => ?_⟩, fun d => ?_⟩, fun d => absurd c1 d⟩
        · rw [c40_nI]; exact vp_in_nI (by omega) (by omega)
        · rw [cx, t91, c40_nI, nI_clamp (by omega), sx8, sx16]
          have ev : (if ¬ I 91 x = 0 then (if ¬ I 91 x = 1 then a2 else a2.toInt16.toInt32) else a2.toInt8.toInt32) = lnv (I 91 x) a2 := by
            unfold lnv
            by_cases z : I 91 x = 0
            · rw [if_neg (fun w => w z), if_pos z]
            · rw [if_pos z, if_neg z]
              by_cases z1 : I 91 x = 1
              · rw [if_neg (fun w => w z1), if_pos z1]
              · rw [if_pos z1, if_neg z1]
          rw [ev]
          generalize lnv (I 91 x) a2 = v
          have O : ∀ a, a ≠ 61 + 2 * x → a ≠ 93 → (upI (upI I (61 + 2 * x) i v) 93 (40 * x + i) v) a = I a := fun a e1 e2 => by
            funext j; rw [upI_at, if_neg (fun z => e2 z.1), upI_at, if_neg (fun z => e1 z.1)]
          have O61 : ∀ j, (upI (upI I (61 + 2 * x) i v) 93 (40 * x + i) v) (61 + 2 * x) j = if j = i then v else I (61 + 2 * x) j := fun j => by
            rw [upI_at, if_neg (by omega), upI_at]
            by_cases e : j = i
            · rw [if_pos ⟨rfl, e⟩, if_pos e]
            · rw [if_neg (fun z => e z.2), if_neg e]
          have O93 : ∀ j, (upI (upI I (61 + 2 * x) i v) 93 (40 * x + i) v) 93 j = if j = 40 * x + i then v else I 93 j := fun j => by
            rw [upI_at]
            by_cases e : j = 40 * x + i
            · rw [if_pos ⟨rfl, e⟩, if_pos e]
            · rw [if_neg (fun z => e z.2), if_neg e, upI_at, if_neg (by omega)]
          refine Rel_sh h (fun a e1 e2 e3 e4 => O a (by omega) e4) (fun y hy => ?_)
          obtain ⟨r1, r2, r3, r4⟩ := Rel_shk h hy
          unfold shOK RSheet
          rw [O 91 (by omega) (by omega), O 92 (by omega) (by omega), O (60 + 2 * y) (by omega) (by omega)]
          refine ⟨r1, r2, r3, fun j hj => ?_⟩
          rw [O93]
          by_cases e : y = x
          · subst e
            rw [O61]
            by_cases e2 : j = i
            · rw [if_pos e2, if_pos (by omega)]
            · rw [if_neg e2, if_neg (by omega)]; exact r4 j hj
          · rw [O (61 + 2 * y) (by omega) (by omega), if_neg (by omega)]; exact r4 j hj
        · rw [cx, t92, e92] at d
          exact absurd good d
        · rw [cx, t91] at d
          exact absurd d hl
      · rw [if_pos c3]
        have eS : shPut I (60 + 2 * x) (61 + 2 * x) a1 a2 = I := by unfold shPut; rw [if_neg c3]
        rw [eS]
        refine wX12_lay ⟨fun _ => ⟨vx, fun _ => ⟨vx, fun d => ?_, fun _ => ⟨rfl, k⟩⟩, fun d => ?_⟩, fun d => absurd c1 d⟩
        · rw [cx, e92] at d
          have h1 := Int32.le_iff_toInt_le.mp d.1
          have h2 := Int32.le_iff_toInt_le.mp d.2
          refine absurd ⟨d.1, ?_⟩ c3
          rw [s2, e92]
          cases n with
          | zero =>
            have z : (nI 0 - 1).toInt = -1 := rfl
            have z0 : (0 : Int32).toInt = 0 := rfl
            omega
          | succ n =>
            rw [nI_pred, nI_toInt (by omega)] at h2
            refine Int32.lt_iff_toInt_lt.mpr ?_
            rw [nI_toInt (by omega)]
            omega
        · rw [cx] at d
          exact absurd d hl
  · have l1 : I 91 x = -4 := by
      rcases s1 with s1 | s1
      · exact s1.2
      · rw [c2] at s1
        have := s1.2.1
        rw [← s1.1] at this
        exact absurd this (by decide)
    exact wX12_lay ⟨fun _ => ⟨vx, fun d => absurd (by rw [cx]; exact l1) d, fun _ => ⟨rfl, k⟩⟩, fun d => absurd c1 d⟩
