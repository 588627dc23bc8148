/-! names -/
def cutN : List Nat := [0, 5, 8, 12, 17, 22, 26, 30, 34, 40]
def letN : List Nat := [112, 108, 97, 99, 101, 119, 97, 121, 115, 104, 117, 116, 109, 111, 118, 101, 115, 102, 105, 114, 115, 116, 109, 111, 115, 116, 115, 101, 110, 116, 110, 101, 97, 114, 110, 117, 109, 98, 101, 114]
def wlN (i : Nat) : Nat := cutN.getD (i + 1) 0 - cutN.getD i 0
def wbN (i j : Nat) : Nat := letN.getD (cutN.getD i 0 + j) 0
def nmP (n : Nat) (B : Nat → Nat) (k i : Nat) : Bool := decide (tK n B k = 1) && (decide (tE n B k - tS n B k = wlN i) && (List.range (wlN i)).all (fun j => decide (B (tS n B k + j) = wbN i j)))
theorem nmP_iff {n : Nat} {B : Nat → Nat} {k i : Nat} : nmP n B k i = true ↔ (tK n B k = 1 ∧ tE n B k - tS n B k = wlN i ∧ ∀ j, j < wlN i → B (tS n B k + j) = wbN i j) := by
  simp [nmP, List.all_eq_true]
/-- the first of the names that it is; none: 9 -/
def nmI (n : Nat) (B : Nat → Nat) (k : Nat) : Nat := opn (fun i => !nmP n B k i) 9 0
def nmE (i : Nat) : Int32 := if i = 9 then -4 else nI i
theorem cut_ok : ∀ i, i < 9 → cutN.getD i 0 + wlN i = cutN.getD (i + 1) 0 ∧ cutN.getD (i + 1) 0 ≤ 40 ∧ cutsL.getD i 0 = nI (cutN.getD i 0) ∧ cutsL.getD (i + 1) 0 = nI (cutN.getD (i + 1) 0) := by decide +kernel
theorem let_ok : ∀ i, i < 40 → lettL.getD i 0 = nI (letN.getD i 0) ∧ letN.getD i 0 < 128 := by decide +kernel
def HX12_nameHere_2 (E : aE) (P : Int32 → hI_ → hJ_ → Prop) (v1 : Int32) (I : hI_) (J : hJ_) : Prop := V E mX12_nameHere (kI SH P) 2 [.ref 68, .int v1, .retAddr 0, .retAddr 0] [] (SH, I, J) (0, 0)
def HX12_nameHere_51 (E : aE) (P : Int32 → hI_ → hJ_ → Prop) (v1 : Int32) (v2 : Int32) (v3 : Int32) (I : hI_) (J : hJ_) : Prop := V E mX12_nameHere (kI SH P) 51 [.ref 68, .int v1, .int v2, .int v3] [] (SH, I, J) (0, 0)
set_option maxHeartbeats 4000000 in
set_option maxRecDepth 20000 in
theorem wX12_nameHere {E : aE} {P : Int32 → hI_ → hJ_ → Prop} {I : hI_} {J : hJ_}  (k : HX12_nameHere_2 E P (0 : Int32) I J) : CallI E mX12_nameHere [.ref 68] SH I J P := by
  refine Call_of (L := [.ref 68, .retAddr 0, .retAddr 0, .retAddr 0]) ok_X12_nameHere.1 rfl rfl ?_
  refine V_iconst (v := (0 : Int32)) dX12_nameHere_0 rfl ?_
  refine U_istore_n (L2 := [.ref 68, .int (0 : Int32), .retAddr 0, .retAddr 0]) dX12_nameHere_1 (by decide) rfl ?_
  exact k
set_option maxHeartbeats 4000000 in
set_option maxRecDepth 20000 in
theorem wX12_nameHere_2 {E : aE} {P : Int32 → hI_ → hJ_ → Prop} {I : hI_} {J : hJ_} {v1 : Int32} (k : (((9 : Int32) ≤ v1 → P (-4 : Int32) I J) ∧ (¬ ((9 : Int32) ≤ v1) → ((¬ (I 68 7) = (1 : Int32) → P (-4 : Int32) I J) ∧ ((I 68 7) = (1 : Int32) → (vp_in (v1 + (1 : Int32)) 10) ∧ (vp_in v1 10) ∧ HX12_nameHere_51 E P v1 (b2i (((I 68 5) - (I 68 6)) = ((I 70 (v1 + (1 : Int32)).toNatClampNeg) - (I 70 v1.toNatClampNeg)))) (0 : Int32) I J))))) : HX12_nameHere_2 E P v1 I J := by
  show V E mX12_nameHere (kI SH P) 2 [.ref 68, .int v1, .retAddr 0, .retAddr 0] [] (SH, I, J) (0, 0)
  refine V_iload_n dX12_nameHere_2 rfl ?_
  refine V_bipush (v := (9 : Int32)) dX12_nameHere_3 rfl ?_
  refine V_icmp_ge dX12_nameHere_5 (fun c1 => ?_) (fun c1 => ?_)
  · have k := k.1 c1
    refine V_bipush (v := (-4 : Int32)) dX12_nameHere_118 rfl ?_
    exact V_iret dX12_nameHere_120 ⟨_, rfl, rfl⟩ rfl rfl ⟨_, _, _, rfl, rfl, k⟩
  · have k := k.2 c1
    refine V_aload_n dX12_nameHere_8 rfl ?_
    refine U_getI dX12_nameHere_9 fl_X12_104 s_68 rfl ?_
    refine V_iconst (v := (1 : Int32)) dX12_nameHere_12 rfl ?_
    refine V_icmp_ne dX12_nameHere_13 (fun c2 => ?_) (fun c2 => ?_)
    · have k := k.1 c2
      refine V_bipush (v := (-4 : Int32)) dX12_nameHere_118 rfl ?_
      exact V_iret dX12_nameHere_120 ⟨_, rfl, rfl⟩ rfl rfl ⟨_, _, _, rfl, rfl, k⟩
    · have k := k.2 c2
      refine V_aload_n dX12_nameHere_16 rfl ?_
      refine U_getI dX12_nameHere_17 fl_X12_107 s_68 rfl ?_
      refine V_aload_n dX12_nameHere_20 rfl ?_
      refine U_getI dX12_nameHere_21 fl_X12_98 s_68 rfl ?_
      refine V_isub dX12_nameHere_24 ?_
      refine V_aload_n dX12_nameHere_25 rfl ?_
      refine U_getR dX12_nameHere_26 fl_X12_13 s_68 rfl ?_
      refine V_iload_n dX12_nameHere_29 rfl ?_
      refine V_iconst (v := (1 : Int32)) dX12_nameHere_30 rfl ?_
      refine V_iadd dX12_nameHere_31 ?_
      obtain ⟨hb3, k⟩ := k
      refine U_iald dX12_nameHere_32 s_70 hb3 ?_
      refine V_aload_n dX12_nameHere_33 rfl ?_
      refine U_getR dX12_nameHere_34 fl_X12_13 s_68 rfl ?_
      refine V_iload_n dX12_nameHere_37 rfl ?_
      obtain ⟨hb4, k⟩ := k
      refine U_iald dX12_nameHere_38 s_70 hb4 ?_
      refine V_isub dX12_nameHere_39 ?_
      have key5 : ∀ (y2006 : Int32), y2006 = (b2i (((I 68 5) - (I 68 6)) = ((I 70 (v1 + (1 : Int32)).toNatClampNeg) - (I 70 v1.toNatClampNeg)))) → V E mX12_nameHere (kI SH P) 48 [.ref 68, .int v1, .retAddr 0, .retAddr 0] [.int y2006] (SH, I, J) (0, 0) := by
        intro y2006 ey2006
        subst ey2006
        refine U_istore_n (L2 := [.ref 68, .int v1, .int (b2i (((I 68 5) - (I 68 6)) = ((I 70 (v1 + (1 : Int32)).toNatClampNeg) - (I 70 v1.toNatClampNeg)))), .retAddr 0]) dX12_nameHere_48 (by decide) rfl ?_
        refine V_iconst (v := (0 : Int32)) dX12_nameHere_49 rfl ?_
        refine U_istore_n (L2 := [.ref 68, .int v1, .int (b2i (((I 68 5) - (I 68 6)) = ((I 70 (v1 + (1 : Int32)).toNatClampNeg) - (I 70 v1.toNatClampNeg)))), .int (0 : Int32)]) dX12_nameHere_50 (by decide) rfl ?_
        exact k
      refine V_icmp_ne dX12_nameHere_40 (fun c2007 => ?_) (fun c2007 => ?_)
      · refine V_iconst (v := (0 : Int32)) dX12_nameHere_47 rfl ?_
        exact key5 _ ((b2i_0.mpr (fun q => c2007 q)).symm)
      · refine V_iconst (v := (1 : Int32)) dX12_nameHere_43 rfl ?_
        refine V_goto dX12_nameHere_44 ?_
        exact key5 _ ((b2i_1.mpr (c2007)).symm)
set_option maxHeartbeats 4000000 in
set_option maxRecDepth 20000 in
theorem wX12_nameHere_51 {E : aE} {P : Int32 → hI_ → hJ_ → Prop} {I : hI_} {J : hJ_} {v1 : Int32} {v2 : Int32} {v3 : Int32} (k : ((v2 = (0 : Int32) → ((v2 = (0 : Int32) → HX12_nameHere_2 E P (v1 + (1 : Int32)) I J) ∧ (¬ (v2 = (0 : Int32)) → P v1 I J))) ∧ (¬ (v2 = (0 : Int32)) → ((((I 68 5) - (I 68 6)) ≤ v3 → ((v2 = (0 : Int32) → HX12_nameHere_2 E P (v1 + (1 : Int32)) I J) ∧ (¬ (v2 = (0 : Int32)) → P v1 I J))) ∧ (¬ (((I 68 5) - (I 68 6)) ≤ v3) → (0 ≤ ((I 68 6) + v3) ∧ I 68 1 ≤ 320) ∧ (vp_in v1 10) ∧ (vp_in ((I 70 v1.toNatClampNeg) + v3) 40) ∧ HX12_nameHere_51 E P v1 (b2i ((mby I ((I 68 6) + v3)) = (I 71 ((I 70 v1.toNatClampNeg) + v3).toNatClampNeg))) (v3 + (1 : Int32)) I J))))) : HX12_nameHere_51 E P v1 v2 v3 I J := by
  show V E mX12_nameHere (kI SH P) 51 [.ref 68, .int v1, .int v2, .int v3] [] (SH, I, J) (0, 0)
  refine V_iload_n dX12_nameHere_51 rfl ?_
  refine V_if_eq dX12_nameHere_52 (fun c1 => ?_) (fun c1 => ?_)
  · have k := k.1 c1
    refine V_iload_n dX12_nameHere_106 rfl ?_
    refine V_if_eq dX12_nameHere_107 (fun c2 => ?_) (fun c2 => ?_)
    · have k := k.1 c2
      refine U_iinc (v := v1 + (1 : Int32)) (L2 := [.ref 68, .int (v1 + (1 : Int32)), .int v2, .int v3]) dX12_nameHere_112 (by decide) rfl rfl rfl ?_
      refine V_goto dX12_nameHere_115 ?_
      exact V_wk (wk_eq (wk_eq (wk_j (wk_j (wk_nil))))) k
    · have k := k.2 c2
      refine V_iload_n dX12_nameHere_110 rfl ?_
      exact V_iret dX12_nameHere_111 ⟨_, rfl, rfl⟩ rfl rfl ⟨_, _, _, rfl, rfl, k⟩
  · have k := k.2 c1
    refine V_iload_n dX12_nameHere_55 rfl ?_
    refine V_aload_n dX12_nameHere_56 rfl ?_
    refine U_getI dX12_nameHere_57 fl_X12_107 s_68 rfl ?_
    refine V_aload_n dX12_nameHere_60 rfl ?_
    refine U_getI dX12_nameHere_61 fl_X12_98 s_68 rfl ?_
    refine V_isub dX12_nameHere_64 ?_
    refine V_icmp_ge dX12_nameHere_65 (fun c3 => ?_) (fun c3 => ?_)
    · have k := k.1 c3
      refine V_iload_n dX12_nameHere_106 rfl ?_
      refine V_if_eq dX12_nameHere_107 (fun c4 => ?_) (fun c4 => ?_)
      · have k := k.1 c4
        refine U_iinc (v := v1 + (1 : Int32)) (L2 := [.ref 68, .int (v1 + (1 : Int32)), .int v2, .int v3]) dX12_nameHere_112 (by decide) rfl rfl rfl ?_
        refine V_goto dX12_nameHere_115 ?_
        exact V_wk (wk_eq (wk_eq (wk_j (wk_j (wk_nil))))) k
      · have k := k.2 c4
        refine V_iload_n dX12_nameHere_110 rfl ?_
        exact V_iret dX12_nameHere_111 ⟨_, rfl, rfl⟩ rfl rfl ⟨_, _, _, rfl, rfl, k⟩
    · have k := k.2 c3
      refine V_aload_n dX12_nameHere_68 rfl ?_
      refine V_aload_n dX12_nameHere_69 rfl ?_
      refine U_getI dX12_nameHere_70 fl_X12_98 s_68 rfl ?_
      refine V_iload_n dX12_nameHere_73 rfl ?_
      refine V_iadd dX12_nameHere_74 ?_
      obtain ⟨hp5, k⟩ := k
      refine U_callV1 [.int ((I 68 6) + v3)] dX12_nameHere_75 ov_X12_110 s_68 rfl ⟨rfl, rfl, rfl⟩ rfl rfl rfl (tX12_byteAt hp5 ?_)
      refine V_aload_n dX12_nameHere_78 rfl ?_
      refine U_getR dX12_nameHere_79 fl_X12_16 s_68 rfl ?_
      refine V_aload_n dX12_nameHere_82 rfl ?_
      refine U_getR dX12_nameHere_83 fl_X12_13 s_68 rfl ?_
      refine V_iload_n dX12_nameHere_86 rfl ?_
      obtain ⟨hb6, k⟩ := k
      refine U_iald dX12_nameHere_87 s_70 hb6 ?_
      refine V_iload_n dX12_nameHere_88 rfl ?_
      refine V_iadd dX12_nameHere_89 ?_
      obtain ⟨hb7, k⟩ := k
      refine U_iald dX12_nameHere_90 s_71 hb7 ?_
      have key8 : ∀ (y2009 : Int32), y2009 = (b2i ((mby I ((I 68 6) + v3)) = (I 71 ((I 70 v1.toNatClampNeg) + v3).toNatClampNeg))) → V E mX12_nameHere (kI SH P) 99 [.ref 68, .int v1, .int v2, .int v3] [.int y2009] (SH, I, J) (0, 0) := by
        intro y2009 ey2009
        subst ey2009
        refine U_istore_n (L2 := [.ref 68, .int v1, .int (b2i ((mby I ((I 68 6) + v3)) = (I 71 ((I 70 v1.toNatClampNeg) + v3).toNatClampNeg))), .int v3]) dX12_nameHere_99 (by decide) rfl ?_
        refine U_iinc (v := v3 + (1 : Int32)) (L2 := [.ref 68, .int v1, .int (b2i ((mby I ((I 68 6) + v3)) = (I 71 ((I 70 v1.toNatClampNeg) + v3).toNatClampNeg))), .int (v3 + (1 : Int32))]) dX12_nameHere_100 (by decide) rfl rfl rfl ?_
        refine V_goto dX12_nameHere_103 ?_
        exact k
      refine V_icmp_ne dX12_nameHere_91 (fun c2010 => ?_) (fun c2010 => ?_)
      · refine V_iconst (v := (0 : Int32)) dX12_nameHere_98 rfl ?_
        exact key8 _ ((b2i_0.mpr (fun q => c2010 q)).symm)
      · refine V_iconst (v := (1 : Int32)) dX12_nameHere_94 rfl ?_
        refine V_goto dX12_nameHere_95 ?_
        exact key8 _ ((b2i_1.mpr (c2010)).symm)
theorem nmi_loop {E : aE} {P : Int32 → hI_ → hJ_ → Prop} {n : Nat} {B : Nat → Nat} {I : hI_} {J : hJ_} {k i : Nat} (h : MB n B I) (hk : k ≤ n) (h5 : I 68 5 = nI (tE n B k)) (h6 : I 68 6 = nI (tS n B k)) (hC : RConst (I 70) (I 71) (I 72)) (hi : i < 9) (h1 : tK n B k = 1) (hl : tE n B k - tS n B k = wlN i) (k1 : nmP n B k i = true → P (nI i) I J) (k0 : nmP n B k i = false → HX12_nameHere_2 E P (nI (i + 1)) I J) : ∀ (m j : Nat), j + m = wlN i → (∀ q, q < j → B (tS n B k + q) = wbN i q) → HX12_nameHere_51 E P (nI i) 1 (nI j) I J
  | 0, j, hj, hq => by
    have hn := h.2.1
    have hs := tS_b (B := B) hk
    have he := tE_b (B := B) hk
    refine wX12_nameHere_51 ⟨fun z => absurd z (by decide), fun _ => ?_⟩
    rw [h5, h6, nI_sub he.1]
    refine ⟨fun _ => ⟨fun z => absurd z (by decide), fun _ => k1 (nmP_iff.mpr ⟨h1, hl, fun q hq2 => hq q (by omega)⟩)⟩, fun z => absurd (nI_le (by omega) (by omega)) z⟩
  | m + 1, j, hj, hq => by
    have hn := h.2.1
    have hs := tS_b (B := B) hk
    have he := tE_b (B := B) hk
    have co := cut_ok i hi
    have lo := let_ok (cutN.getD i 0 + j) (by omega)
    have vi : vp_in (nI i) 10 := vp_in_nI (by omega) (by omega)
    have e70 : I 70 i = nI (cutN.getD i 0) := (hC.1 i (by omega)).trans co.2.2.1
    have e71 : I 71 (cutN.getD i 0 + j) = nI (wbN i j) := (hC.2.1 _ (by omega)).trans lo.1
    refine wX12_nameHere_51 ⟨fun z => absurd z (by decide), fun _ => ?_⟩
    rw [h5, h6, nI_sub he.1, nI_add, nI_clamp (n := i) (by omega), e70, nI_add, nI_clamp (n := cutN.getD i 0 + j) (by omega), e71, mby_N h (show tS n B k + j < n by omega), nI_1 j]
    refine ⟨fun z => absurd z (nI_ge (by omega) (by omega)), fun _ => ⟨rg_m h (i := tS n B k + j) (by omega) rfl, vi, vp_in_nI (by omega) (by omega), ?_⟩⟩
    have bb := (h.2.2 (tS n B k + j) (by omega)).2
    have eb : (nI (B (tS n B k + j)) = nI (wbN i j)) ↔ B (tS n B k + j) = wbN i j := nI_eqI (by omega) (by unfold wbN; omega)
    by_cases z : B (tS n B k + j) = wbN i j
    · have e : b2i (nI (B (tS n B k + j)) = nI (wbN i j)) = 1 := if_pos (eb.mpr z)
      rw [e]
      refine nmi_loop h hk h5 h6 hC hi h1 hl k1 k0 m (j + 1) (by omega) (fun q hq2 => ?_)
      by_cases w : q = j
      · rw [w]; exact z
      · exact hq q (by omega)
    · have e : b2i (nI (B (tS n B k + j)) = nI (wbN i j)) = 0 := if_neg (fun y => z (eb.mp y))
      rw [e]
      refine wX12_nameHere_51 ⟨fun _ => ⟨fun _ => ?_, fun y => absurd rfl y⟩, fun y => absurd rfl y⟩
      rw [nI_1 i]
      exact k0 (Bool.eq_false_iff.mpr (fun y => z ((nmP_iff.mp y).2.2 j (by omega))))
theorem nmo_loop {E : aE} {P : Int32 → hI_ → hJ_ → Prop} {n : Nat} {B : Nat → Nat} {I : hI_} {J : hJ_} {k R : Nat} (h : MB n B I) (hk : k ≤ n) (h5 : I 68 5 = nI (tE n B k)) (h6 : I 68 6 = nI (tS n B k)) (h7 : I 68 7 = nI (tK n B k)) (h4 : tK n B k ≤ 4) (hC : RConst (I 70) (I 71) (I 72)) (kk : P (nmE R) I J) : ∀ (m i : Nat), i + m = 9 → opn (fun i => !nmP n B k i) m i = R → HX12_nameHere_2 E P (nI i) I J
  | 0, i, hi, hR => by
    have e0 : opn (fun i => !nmP n B k i) 0 i = i := rfl
    rw [e0] at hR
    have e : i = 9 := by omega
    rw [← hR, e] at kk
    subst e
    exact wX12_nameHere_2 ⟨fun _ => kk, fun z => absurd (Int32.le_refl _) z⟩
  | m + 1, i, hi, hR => by
    have hn := h.2.1
    have he := tE_b (B := B) hk
    have co := cut_ok i (by omega)
    have e0 : opn (fun i => !nmP n B k i) (m + 1) i = if (!nmP n B k i) = true then opn (fun i => !nmP n B k i) m (i + 1) else i := rfl
    rw [e0] at hR
    have k1 : nmP n B k i = true → P (nI i) I J := fun z => by
      rw [z, if_neg (by decide)] at hR
      rw [← hR] at kk
      unfold nmE at kk
      rw [if_neg (by omega)] at kk; exact kk
    have k0 : nmP n B k i = false → HX12_nameHere_2 E P (nI (i + 1)) I J := fun z => by
      rw [z, if_pos (by decide)] at hR
      exact nmo_loop h hk h5 h6 h7 h4 hC kk m (i + 1) (by omega) hR
    have k7 := nI_eqI (a := tK n B k) (b := 1) (by omega) (by omega)
    refine wX12_nameHere_2 ⟨fun z => absurd z (nI_ge (b := 9) (by omega) (by omega)), fun _ => ⟨fun z => ?_, fun z => ?_⟩⟩
    · -- no name: none of those behind either
      rw [h7] at z
      have nk : ¬ tK n B k = 1 := fun y => z (k7.mpr y)
      have all : ∀ m i, opn (fun i => !nmP n B k i) m i = i + m := by
        intro m
        induction m with
        | zero => intro i; rfl
        | succ m ih =>
          intro i
          have e1 : opn (fun i => !nmP n B k i) (m + 1) i = if (!nmP n B k i) = true then opn (fun i => !nmP n B k i) m (i + 1) else i := rfl
          have f : nmP n B k i = false := Bool.eq_false_iff.mpr (fun y => nk (nmP_iff.mp y).1)
          rw [e1, f, if_pos (by decide), ih]; omega
      have e9 : R = 9 := by
        rw [← hR, ← e0, all]; omega
      rw [e9] at kk; exact kk
    · rw [h7] at z
      have nk : tK n B k = 1 := k7.mp z
      have ec1 : I 70 (i + 1) = nI (cutN.getD (i + 1) 0) := (hC.1 (i + 1) (by omega)).trans co.2.2.2
      have ec0 : I 70 i = nI (cutN.getD i 0) := (hC.1 i (by omega)).trans co.2.2.1
      rw [nI_1 i, nI_clamp (n := i + 1) (by omega), nI_clamp (n := i) (by omega), ec1, ec0, h5, h6, nI_sub he.1, nI_sub (show cutN.getD i 0 ≤ cutN.getD (i + 1) 0 by omega)]
      refine ⟨vp_in_nI (by omega) (by omega), vp_in_nI (by omega) (by omega), ?_⟩
      have el : (nI (tE n B k - tS n B k) = nI (cutN.getD (i + 1) 0 - cutN.getD i 0)) ↔ tE n B k - tS n B k = wlN i := nI_eqI (by omega) (by omega)
      by_cases y : tE n B k - tS n B k = wlN i
      · have e : b2i (nI (tE n B k - tS n B k) = nI (cutN.getD (i + 1) 0 - cutN.getD i 0)) = 1 := if_pos (el.mpr y)
        rw [e]
        exact nmi_loop h hk h5 h6 hC (by omega) nk y k1 k0 (wlN i) 0 (by omega) (fun q hq => by omega)
      · have e : b2i (nI (tE n B k - tS n B k) = nI (cutN.getD (i + 1) 0 - cutN.getD i 0)) = 0 := if_neg (fun w => y (el.mp w))
        rw [e]
        refine wX12_nameHere_51 ⟨fun _ => ⟨fun _ => ?_, fun w => absurd rfl w⟩, fun w => absurd rfl w⟩
        rw [nI_1 i]
        exact k0 (Bool.eq_false_iff.mpr (fun w => y (nmP_iff.mp w).2.1))
theorem tK_4 (n : Nat) (B : Nat → Nat) (k : Nat) : tK n B k ≤ 4 := by
  unfold tK tkd
  split
  · omega
  · split
    · omega
    · split
      · split <;> omega
      · split <;> omega
theorem tX12_nameHere {E : aE} {P : Int32 → hI_ → hJ_ → Prop} {n : Nat} {B : Nat → Nat} {I : hI_} {J : hJ_} {k : Nat} (h : MB n B I) (hk : k ≤ n) (hT : MT n B k I) (h4 : tK n B k ≠ 4) (hC : RConst (I 70) (I 71) (I 72)) (kk : P (nmE (nmI n B k)) I J) : CallI E mX12_nameHere [.ref 68] SH I J P := wX12_nameHere (nmo_loop h hk hT.1 hT.2.1 (hT.2.2.2 h4).2.1 (tK_4 n B k) hC kk 9 0 (by omega) rfl)
/-- the class's looking whether it is a name -/
def cMap : List Nat := [0, 1, 2, 3, 4, 6, 7, 8, 5]
theorem cMap_ok : ∀ j, j < 9 → sLen.getD j 0 = wlN (cMap.getD j 0) ∧ ∀ q, q < wlN (cMap.getD j 0) → (sByt.getD j []).getD q 0 = nI (wbN (cMap.getD j 0) q) ∧ wbN (cMap.getD j 0) q < 128 := by decide +kernel
theorem isNm_P {n : Nat} {B : Nat → Nat} {I : hI_} {k : Nat} (h : XB n B I) (hk : k ≤ n) (hT : XT n B k I) {j : UInt32} (hj : j.toNat < 9) : isNmB I j = true ↔ nmP n B k (cMap.getD j.toNat 0) = true := by
  have hn := h.2.1
  have he := tE_b (B := B) hk
  have k4 := tK_4 n B k
  obtain ⟨c1, c2⟩ := cMap_ok j.toNat hj
  have w6 : ∀ i, i < 9 → wlN i ≤ 6 := by decide +kernel
  have m9 : ∀ i, i < 9 → cMap.getD i 0 < 9 := by decide +kernel
  have wl := w6 _ (m9 _ hj)
  rw [isNmB_iff, nmP_iff]
  unfold isNm
  rw [hT.2.1, hT.1, hT.2.2.1, nI_sub he.1, c1]
  have e1 : (nI (tK n B k) = 1) ↔ tK n B k = 1 := nI_eqI (b := 1) (by omega) (by omega)
  have e2 : (nI (tE n B k - tS n B k) = Int32.ofNat (wlN (cMap.getD j.toNat 0))) ↔ tE n B k - tS n B k = wlN (cMap.getD j.toNat 0) := nI_eqI (by omega) (by omega)
  rw [e1, e2]
  constructor
  · rintro ⟨a1, a2, a3⟩
    refine ⟨a1, a2, fun q hq => ?_⟩
    have := a3 q hq
    rw [nI_add, byt_N h (show tS n B k + q < n by omega), (c2 q hq).1] at this
    exact (cbt_eq (h.2.2 _ (by omega)).2 (c2 q hq).2).mp this
  · rintro ⟨a1, a2, a3⟩
    refine ⟨a1, a2, fun q hq => ?_⟩
    rw [nI_add, byt_N h (show tS n B k + q < n by omega), (c2 q hq).1]
    exact (cbt_eq (h.2.2 _ (by omega)).2 (c2 q hq).2).mpr (a3 q hq)
theorem nmP_one {n : Nat} {B : Nat → Nat} {k i j : Nat} (hi : i < 9) (hj : j < 9) (h1 : nmP n B k i = true) (h2 : nmP n B k j = true) : i = j := by
  have a := nmP_iff.mp h1
  have b := nmP_iff.mp h2
  have key : ∀ i, i < 9 → ∀ j, j < 9 → wlN i = wlN j → (List.range (wlN i)).all (fun q => decide (wbN i q = wbN j q)) = true → i = j := by decide +kernel
  refine key i hi j hj (a.2.1.symm.trans b.2.1) ?_
  rw [List.all_eq_true]
  intro q hq
  have hq := List.mem_range.mp hq
  refine decide_eq_true ?_
  rw [← a.2.2 q hq, b.2.2 q (by have := a.2.1.symm.trans b.2.1; omega)]
theorem nmI_of {n : Nat} {B : Nat → Nat} {k i : Nat} (hi : i < 9) (h : nmP n B k i = true) : nmI n B k = i := by
  have key : ∀ m a, a ≤ i → i < a + m → (∀ q, a ≤ q → q < i → nmP n B k q = false) → opn (fun i => !nmP n B k i) m a = i := by
    intro m
    induction m with
    | zero => intro a h1 h2; omega
    | succ m ih =>
      intro a h1 h2 h3
      have e1 : opn (fun i => !nmP n B k i) (m + 1) a = if (!nmP n B k a) = true then opn (fun i => !nmP n B k i) m (a + 1) else a := rfl
      rw [e1]
      by_cases e : a = i
      · rw [e, h, if_neg (by decide)]
      · rw [h3 a (Nat.le_refl _) (by omega), if_pos (by decide)]
        exact ih (a + 1) (by omega) (by omega) (fun q q1 q2 => h3 q (by omega) q2)
  refine key 9 0 (by omega) (by omega) (fun q _ hq => ?_)
  cases w : nmP n B k q with
  | false => rfl
  | true => have := nmP_one (by omega) hi w h; omega
theorem nmI_is {n : Nat} {B : Nat → Nat} {k : Nat} (h : nmI n B k < 9) : nmP n B k (nmI n B k) = true := by
  rcases opn_or (c := fun i => !nmP n B k i) 9 0 with z | z
  · have : nmI n B k = 0 + 9 := z
    omega
  · have z : (!nmP n B k (nmI n B k)) = false := z
    cases w : nmP n B k (nmI n B k) with
    | true => rfl
    | false => rw [w] at z; cases z
theorem nmI_9 {n : Nat} {B : Nat → Nat} {k : Nat} : nmI n B k ≤ 9 := by
  have := opn_le (c := fun i => !nmP n B k i) 9 0
  unfold nmI; omega
/-- one of the class's tests of a name, by the number of the name -/
theorem isNm_I {n : Nat} {B : Nat → Nat} {I : hI_} {k : Nat} (h : XB n B I) (hk : k ≤ n) (hT : XT n B k I) {j : UInt32} (hj : j.toNat < 9) : isNmB I j = true ↔ nmI n B k = cMap.getD j.toNat 0 := by
  have m9 : ∀ i, i < 9 → cMap.getD i 0 < 9 := by decide +kernel
  have := m9 _ hj
  rw [isNm_P h hk hT hj]
  constructor
  · exact fun z => nmI_of this z
  · intro z
    have := nmI_is (n := n) (B := B) (k := k) (by omega)
    rw [z] at this; exact this
