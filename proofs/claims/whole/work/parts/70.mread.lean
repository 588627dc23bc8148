/-! the model's reader -/
def MD (D : Nat → Nat) (I : hI_) : Prop := (∀ j, j < 8 → I 77 j = nI (D j)) ∧ (∀ i, i < D 0 → I 78 i = nI (D (20 + i))) ∧ (∀ k, k < 25 → I 79 k = nI (D (40 + k))) ∧ (∀ j, j < 4 * D 2 → I 80 j = nI (D (100 + j))) ∧ tb (I 68 20) 3 = decide (D 8 ≠ 0) ∧ tb (I 68 20) 4 = decide (D 9 ≠ 0) ∧ tb (I 68 20) 5 = decide (D 10 ≠ 0)
def frQ (I I2 : hI_) : Prop := (∀ a, (a < 68 ∨ (69 ≤ a ∧ a < 77) ∨ 81 ≤ a) → I2 a = I a) ∧ ∀ j, j < 3 ∨ (9 ≤ j ∧ j ≠ 20) → I2 68 j = I 68 j
theorem frQ_tr {I I2 I3 : hI_} (h1 : frQ I I2) (h2 : frQ I2 I3) : frQ I I3 := ⟨fun a h => (h2.1 a h).trans (h1.1 a h), fun j h => (h2.2 j h).trans (h1.2 j h)⟩
theorem frQ_M {I I2 : hI_} (h : frM I I2) : frQ I I2 := ⟨fun a ha => h.1 a (by omega), fun j hj => h.2 j (by omega)⟩
theorem frQ_up {I : hI_} {a i : Nat} {v : Int32} (h : 77 ≤ a ∧ a < 81) : frQ I (upI I a i v) := by
  refine ⟨fun b hb => ?_, fun j hj => ?_⟩
  · funext j; rw [upI_at, if_neg (fun z => by omega)]
  · rw [upI_at, if_neg (fun z => by omega)]
theorem frQ_20 {I : hI_} {v : Int32} : frQ I (upI I 68 20 v) := by
  refine ⟨fun b hb => ?_, fun j hj => ?_⟩
  · funext j; rw [upI_at, if_neg (fun z => by omega)]
  · rw [upI_at, if_neg (fun z => by omega)]
theorem MB_Q {n : Nat} {B : Nat → Nat} {I I2 : hI_} (h : MB n B I) (hf : frQ I I2) : MB n B I2 := ⟨by rw [hf.2 1 (by omega)]; exact h.1, h.2.1, by rw [hf.1 69 (by omega)]; exact h.2.2⟩
theorem MD_M {D : Nat → Nat} {I I2 : hI_} (h : MD D I) (hf : frM I I2) : MD D I2 := by
  unfold MD at h ⊢
  rw [hf.1 77 (by omega), hf.1 78 (by omega), hf.1 79 (by omega), hf.1 80 (by omega), hf.2 20 (by omega)]
  exact h
theorem MT_up {n : Nat} {B : Nat → Nat} {k : Nat} {I : hI_} (h : MT n B k I) {a i : Nat} {v : Int32} (ha : a ≠ 68 ∨ 9 ≤ i) : MT n B k (upI I a i v) := by
  have e : ∀ j, j < 9 → (upI I a i v) 68 j = I 68 j := fun j hj => by rw [upI_at, if_neg (by omega)]
  unfold MT at h ⊢
  rw [e 3 (by omega), e 4 (by omega), e 5 (by omega), e 6 (by omega), e 7 (by omega), e 8 (by omega)]; exact h
set_option maxHeartbeats 4000000 in
set_option maxRecDepth 20000 in
theorem wX12_here {E : aE} {P : Int32 → hI_ → hJ_ → Prop} {I : hI_} {J : hJ_} {a0 : Int32} {a1 : Int32} (k : ((¬ (I 68 3) = (0 : Int32) → ((¬ (I 68 3) = (0 : Int32) → P (if ¬ (I 68 3) = (0 : Int32) then (0 : Int32) else (I 68 8)) I J) ∧ ((I 68 3) = (0 : Int32) → (((a0 ≤ (I 68 8) ∧ (I 68 8) ≤ a1) → P (if ¬ (I 68 3) = (0 : Int32) then (0 : Int32) else (I 68 8)) I J) ∧ (¬ ((a0 ≤ (I 68 8) ∧ (I 68 8) ≤ a1)) → CallV E mX12_fails [.ref 68, .int (3 : Int32)] SH I J (fun I4011 J4012 => P (if ¬ (I4011 68 3) = (0 : Int32) then (0 : Int32) else (I4011 68 8)) I4011 J4012)))))) ∧ ((I 68 3) = (0 : Int32) → (((I 68 7) = (2 : Int32) → ((¬ (I 68 3) = (0 : Int32) → P (if ¬ (I 68 3) = (0 : Int32) then (0 : Int32) else (I 68 8)) I J) ∧ ((I 68 3) = (0 : Int32) → (((a0 ≤ (I 68 8) ∧ (I 68 8) ≤ a1) → P (if ¬ (I 68 3) = (0 : Int32) then (0 : Int32) else (I 68 8)) I J) ∧ (¬ ((a0 ≤ (I 68 8) ∧ (I 68 8) ≤ a1)) → CallV E mX12_fails [.ref 68, .int (3 : Int32)] SH I J (fun I10026 J10027 => P (if ¬ (I10026 68 3) = (0 : Int32) then (0 : Int32) else (I10026 68 8)) I10026 J10027)))))) ∧ (¬ ((I 68 7) = (2 : Int32)) → CallV E mX12_fails [.ref 68, .int (2 : Int32)] SH I J (fun I12032 J12033 => ((¬ (I12032 68 3) = (0 : Int32) → P (if ¬ (I12032 68 3) = (0 : Int32) then (0 : Int32) else (I12032 68 8)) I12032 J12033) ∧ ((I12032 68 3) = (0 : Int32) → (((a0 ≤ (I12032 68 8) ∧ (I12032 68 8) ≤ a1) → P (if ¬ (I12032 68 3) = (0 : Int32) then (0 : Int32) else (I12032 68 8)) I12032 J12033) ∧ (¬ ((a0 ≤ (I12032 68 8) ∧ (I12032 68 8) ≤ a1)) → CallV E mX12_fails [.ref 68, .int (3 : Int32)] SH I12032 J12033 (fun I16043 J16044 => P (if ¬ (I16043 68 3) = (0 : Int32) then (0 : Int32) else (I16043 68 8)) I16043 J16044))))))))))) : CallI E mX12_here [.ref 68, .int a0, .int a1] SH I J P := by
  refine Call_of (L := [.ref 68, .int a0, .int a1]) ok_X12_here.1 rfl rfl ?_
  refine V_aload_n dX12_here_0 rfl ?_
  refine U_getI dX12_here_1 fl_X12_95 s_68 rfl ?_
  refine V_if_ne dX12_here_4 (fun c1 => ?_) (fun c1 => ?_)
  · have k := k.1 c1
    refine V_aload_n dX12_here_20 rfl ?_
    refine U_getI dX12_here_21 fl_X12_95 s_68 rfl ?_
    refine V_if_ne dX12_here_24 (fun c2 => ?_) (fun c2 => ?_)
    · have k := k.1 c2
      refine V_aload_n dX12_here_47 rfl ?_
      refine U_getI dX12_here_48 fl_X12_95 s_68 rfl ?_
      have key3 : ∀ (y2004 : Int32), y2004 = (if ¬ (I 68 3) = (0 : Int32) then (0 : Int32) else (I 68 8)) → V E mX12_here (kI SH P) 62 [.ref 68, .int a0, .int a1] [.int y2004] (SH, I, J) (0, 0) := by
        intro y2004 ey2004
        subst ey2004
        exact V_iret dX12_here_62 ⟨_, rfl, rfl⟩ rfl rfl ⟨_, _, _, rfl, rfl, k⟩
      refine V_if_ne dX12_here_51 (fun c2005 => ?_) (fun c2005 => ?_)
      · refine V_iconst (v := (0 : Int32)) dX12_here_61 rfl ?_
        exact key3 _ (by rw [if_pos c2005])
      · refine V_aload_n dX12_here_54 rfl ?_
        refine U_getI dX12_here_55 fl_X12_114 s_68 rfl ?_
        refine V_goto dX12_here_58 ?_
        exact key3 _ (by rw [if_neg (not_not_intro c2005)])
    · have k := k.2 c2
      refine V_aload_n dX12_here_27 rfl ?_
      refine U_getI dX12_here_28 fl_X12_114 s_68 rfl ?_
      refine V_i2l dX12_here_31 ?_
      refine V_iload_n dX12_here_32 rfl ?_
      refine V_i2l dX12_here_33 ?_
      refine V_iload_n dX12_here_34 rfl ?_
      refine V_i2l dX12_here_35 ?_
      refine U_callS1 [.long ((I 68 8).toInt64), .long a0.toInt64, .long a1.toInt64] dX12_here_36 os_X12_91 ⟨rfl, rfl, rfl⟩ rfl rfl rfl (tX12_in32 (v := (I 68 8)) (lo := a0) (hi := a1) rfl rfl rfl ?_)
      refine U_ifb_ne dX12_here_39 (fun c2006 => ?_) (fun c2006 => ?_)
      · have k := k.1 c2006
        refine V_aload_n dX12_here_47 rfl ?_
        refine U_getI dX12_here_48 fl_X12_95 s_68 rfl ?_
        have key2007 : ∀ (y4008 : Int32), y4008 = (if ¬ (I 68 3) = (0 : Int32) then (0 : Int32) else (I 68 8)) → V E mX12_here (kI SH P) 62 [.ref 68, .int a0, .int a1] [.int y4008] (SH, I, J) (0, 0) := by
          intro y4008 ey4008
          subst ey4008
          exact V_iret dX12_here_62 ⟨_, rfl, rfl⟩ rfl rfl ⟨_, _, _, rfl, rfl, k⟩
        refine V_if_ne dX12_here_51 (fun c4009 => ?_) (fun c4009 => ?_)
        · refine V_iconst (v := (0 : Int32)) dX12_here_61 rfl ?_
          exact key2007 _ (by rw [if_pos c4009])
        · refine V_aload_n dX12_here_54 rfl ?_
          refine U_getI dX12_here_55 fl_X12_114 s_68 rfl ?_
          refine V_goto dX12_here_58 ?_
          exact key2007 _ (by rw [if_neg (not_not_intro c4009)])
      · have k := k.2 c2006
        refine V_aload_n dX12_here_42 rfl ?_
        refine V_iconst (v := (3 : Int32)) dX12_here_43 rfl ?_
        refine U_callV0 [.int (3 : Int32)] dX12_here_44 ov_X12_125 s_68 rfl ⟨rfl, rfl, rfl⟩ rfl rfl rfl (CallV_mono k (fun I4011 J4012 k => ?_))
        refine V_aload_n dX12_here_47 rfl ?_
        refine U_getI dX12_here_48 fl_X12_95 s_68 rfl ?_
        have key4013 : ∀ (y6014 : Int32), y6014 = (if ¬ (I4011 68 3) = (0 : Int32) then (0 : Int32) else (I4011 68 8)) → V E mX12_here (kI SH P) 62 [.ref 68, .int a0, .int a1] [.int y6014] (SH, I4011, J4012) (0, 0) := by
          intro y6014 ey6014
          subst ey6014
          exact V_iret dX12_here_62 ⟨_, rfl, rfl⟩ rfl rfl ⟨_, _, _, rfl, rfl, k⟩
        refine V_if_ne dX12_here_51 (fun c6015 => ?_) (fun c6015 => ?_)
        · refine V_iconst (v := (0 : Int32)) dX12_here_61 rfl ?_
          exact key4013 _ (by rw [if_pos c6015])
        · refine V_aload_n dX12_here_54 rfl ?_
          refine U_getI dX12_here_55 fl_X12_114 s_68 rfl ?_
          refine V_goto dX12_here_58 ?_
          exact key4013 _ (by rw [if_neg (not_not_intro c6015)])
  · have k := k.2 c1
    refine V_aload_n dX12_here_7 rfl ?_
    refine U_getI dX12_here_8 fl_X12_104 s_68 rfl ?_
    refine V_iconst (v := (2 : Int32)) dX12_here_11 rfl ?_
    refine V_icmp_eq dX12_here_12 (fun c6016 => ?_) (fun c6016 => ?_)
    · have k := k.1 c6016
      refine V_aload_n dX12_here_20 rfl ?_
      refine U_getI dX12_here_21 fl_X12_95 s_68 rfl ?_
      refine V_if_ne dX12_here_24 (fun c6017 => ?_) (fun c6017 => ?_)
      · have k := k.1 c6017
        refine V_aload_n dX12_here_47 rfl ?_
        refine U_getI dX12_here_48 fl_X12_95 s_68 rfl ?_
        have key6018 : ∀ (y8019 : Int32), y8019 = (if ¬ (I 68 3) = (0 : Int32) then (0 : Int32) else (I 68 8)) → V E mX12_here (kI SH P) 62 [.ref 68, .int a0, .int a1] [.int y8019] (SH, I, J) (0, 0) := by
          intro y8019 ey8019
          subst ey8019
          exact V_iret dX12_here_62 ⟨_, rfl, rfl⟩ rfl rfl ⟨_, _, _, rfl, rfl, k⟩
        refine V_if_ne dX12_here_51 (fun c8020 => ?_) (fun c8020 => ?_)
        · refine V_iconst (v := (0 : Int32)) dX12_here_61 rfl ?_
          exact key6018 _ (by rw [if_pos c8020])
        · refine V_aload_n dX12_here_54 rfl ?_
          refine U_getI dX12_here_55 fl_X12_114 s_68 rfl ?_
          refine V_goto dX12_here_58 ?_
          exact key6018 _ (by rw [if_neg (not_not_intro c8020)])
      · have k := k.2 c6017
        refine V_aload_n dX12_here_27 rfl ?_
        refine U_getI dX12_here_28 fl_X12_114 s_68 rfl ?_
        refine V_i2l dX12_here_31 ?_
        refine V_iload_n dX12_here_32 rfl ?_
        refine V_i2l dX12_here_33 ?_
        refine V_iload_n dX12_here_34 rfl ?_
        refine V_i2l dX12_here_35 ?_
        refine U_callS1 [.long ((I 68 8).toInt64), .long a0.toInt64, .long a1.toInt64] dX12_here_36 os_X12_91 ⟨rfl, rfl, rfl⟩ rfl rfl rfl (tX12_in32 (v := (I 68 8)) (lo := a0) (hi := a1) rfl rfl rfl ?_)
        refine U_ifb_ne dX12_here_39 (fun c8021 => ?_) (fun c8021 => ?_)
        · have k := k.1 c8021
          refine V_aload_n dX12_here_47 rfl ?_
          refine U_getI dX12_here_48 fl_X12_95 s_68 rfl ?_
          have key8022 : ∀ (y10023 : Int32), y10023 = (if ¬ (I 68 3) = (0 : Int32) then (0 : Int32) else (I 68 8)) → V E mX12_here (kI SH P) 62 [.ref 68, .int a0, .int a1] [.int y10023] (SH, I, J) (0, 0) := by
            intro y10023 ey10023
            subst ey10023
            exact V_iret dX12_here_62 ⟨_, rfl, rfl⟩ rfl rfl ⟨_, _, _, rfl, rfl, k⟩
          refine V_if_ne dX12_here_51 (fun c10024 => ?_) (fun c10024 => ?_)
          · refine V_iconst (v := (0 : Int32)) dX12_here_61 rfl ?_
            exact key8022 _ (by rw [if_pos c10024])
          · refine V_aload_n dX12_here_54 rfl ?_
            refine U_getI dX12_here_55 fl_X12_114 s_68 rfl ?_
            refine V_goto dX12_here_58 ?_
            exact key8022 _ (by rw [if_neg (not_not_intro c10024)])
        · have k := k.2 c8021
          refine V_aload_n dX12_here_42 rfl ?_
          refine V_iconst (v := (3 : Int32)) dX12_here_43 rfl ?_
          refine U_callV0 [.int (3 : Int32)] dX12_here_44 ov_X12_125 s_68 rfl ⟨rfl, rfl, rfl⟩ rfl rfl rfl (CallV_mono k (fun I10026 J10027 k => ?_))
          refine V_aload_n dX12_here_47 rfl ?_
          refine U_getI dX12_here_48 fl_X12_95 s_68 rfl ?_
          have key10028 : ∀ (y12029 : Int32), y12029 = (if ¬ (I10026 68 3) = (0 : Int32) then (0 : Int32) else (I10026 68 8)) → V E mX12_here (kI SH P) 62 [.ref 68, .int a0, .int a1] [.int y12029] (SH, I10026, J10027) (0, 0) := by
            intro y12029 ey12029
            subst ey12029
            exact V_iret dX12_here_62 ⟨_, rfl, rfl⟩ rfl rfl ⟨_, _, _, rfl, rfl, k⟩
          refine V_if_ne dX12_here_51 (fun c12030 => ?_) (fun c12030 => ?_)
          · refine V_iconst (v := (0 : Int32)) dX12_here_61 rfl ?_
            exact key10028 _ (by rw [if_pos c12030])
          · refine V_aload_n dX12_here_54 rfl ?_
            refine U_getI dX12_here_55 fl_X12_114 s_68 rfl ?_
            refine V_goto dX12_here_58 ?_
            exact key10028 _ (by rw [if_neg (not_not_intro c12030)])
    · have k := k.2 c6016
      refine V_aload_n dX12_here_15 rfl ?_
      refine V_iconst (v := (2 : Int32)) dX12_here_16 rfl ?_
      refine U_callV0 [.int (2 : Int32)] dX12_here_17 ov_X12_125 s_68 rfl ⟨rfl, rfl, rfl⟩ rfl rfl rfl (CallV_mono k (fun I12032 J12033 k => ?_))
      refine V_aload_n dX12_here_20 rfl ?_
      refine U_getI dX12_here_21 fl_X12_95 s_68 rfl ?_
      refine V_if_ne dX12_here_24 (fun c12034 => ?_) (fun c12034 => ?_)
      · have k := k.1 c12034
        refine V_aload_n dX12_here_47 rfl ?_
        refine U_getI dX12_here_48 fl_X12_95 s_68 rfl ?_
        have key12035 : ∀ (y14036 : Int32), y14036 = (if ¬ (I12032 68 3) = (0 : Int32) then (0 : Int32) else (I12032 68 8)) → V E mX12_here (kI SH P) 62 [.ref 68, .int a0, .int a1] [.int y14036] (SH, I12032, J12033) (0, 0) := by
          intro y14036 ey14036
          subst ey14036
          exact V_iret dX12_here_62 ⟨_, rfl, rfl⟩ rfl rfl ⟨_, _, _, rfl, rfl, k⟩
        refine V_if_ne dX12_here_51 (fun c14037 => ?_) (fun c14037 => ?_)
        · refine V_iconst (v := (0 : Int32)) dX12_here_61 rfl ?_
          exact key12035 _ (by rw [if_pos c14037])
        · refine V_aload_n dX12_here_54 rfl ?_
          refine U_getI dX12_here_55 fl_X12_114 s_68 rfl ?_
          refine V_goto dX12_here_58 ?_
          exact key12035 _ (by rw [if_neg (not_not_intro c14037)])
      · have k := k.2 c12034
        refine V_aload_n dX12_here_27 rfl ?_
        refine U_getI dX12_here_28 fl_X12_114 s_68 rfl ?_
        refine V_i2l dX12_here_31 ?_
        refine V_iload_n dX12_here_32 rfl ?_
        refine V_i2l dX12_here_33 ?_
        refine V_iload_n dX12_here_34 rfl ?_
        refine V_i2l dX12_here_35 ?_
        refine U_callS1 [.long ((I12032 68 8).toInt64), .long a0.toInt64, .long a1.toInt64] dX12_here_36 os_X12_91 ⟨rfl, rfl, rfl⟩ rfl rfl rfl (tX12_in32 (v := (I12032 68 8)) (lo := a0) (hi := a1) rfl rfl rfl ?_)
        refine U_ifb_ne dX12_here_39 (fun c14038 => ?_) (fun c14038 => ?_)
        · have k := k.1 c14038
          refine V_aload_n dX12_here_47 rfl ?_
          refine U_getI dX12_here_48 fl_X12_95 s_68 rfl ?_
          have key14039 : ∀ (y16040 : Int32), y16040 = (if ¬ (I12032 68 3) = (0 : Int32) then (0 : Int32) else (I12032 68 8)) → V E mX12_here (kI SH P) 62 [.ref 68, .int a0, .int a1] [.int y16040] (SH, I12032, J12033) (0, 0) := by
            intro y16040 ey16040
            subst ey16040
            exact V_iret dX12_here_62 ⟨_, rfl, rfl⟩ rfl rfl ⟨_, _, _, rfl, rfl, k⟩
          refine V_if_ne dX12_here_51 (fun c16041 => ?_) (fun c16041 => ?_)
          · refine V_iconst (v := (0 : Int32)) dX12_here_61 rfl ?_
            exact key14039 _ (by rw [if_pos c16041])
          · refine V_aload_n dX12_here_54 rfl ?_
            refine U_getI dX12_here_55 fl_X12_114 s_68 rfl ?_
            refine V_goto dX12_here_58 ?_
            exact key14039 _ (by rw [if_neg (not_not_intro c16041)])
        · have k := k.2 c14038
          refine V_aload_n dX12_here_42 rfl ?_
          refine V_iconst (v := (3 : Int32)) dX12_here_43 rfl ?_
          refine U_callV0 [.int (3 : Int32)] dX12_here_44 ov_X12_125 s_68 rfl ⟨rfl, rfl, rfl⟩ rfl rfl rfl (CallV_mono k (fun I16043 J16044 k => ?_))
          refine V_aload_n dX12_here_47 rfl ?_
          refine U_getI dX12_here_48 fl_X12_95 s_68 rfl ?_
          have key16045 : ∀ (y18046 : Int32), y18046 = (if ¬ (I16043 68 3) = (0 : Int32) then (0 : Int32) else (I16043 68 8)) → V E mX12_here (kI SH P) 62 [.ref 68, .int a0, .int a1] [.int y18046] (SH, I16043, J16044) (0, 0) := by
            intro y18046 ey18046
            subst ey18046
            exact V_iret dX12_here_62 ⟨_, rfl, rfl⟩ rfl rfl ⟨_, _, _, rfl, rfl, k⟩
          refine V_if_ne dX12_here_51 (fun c18047 => ?_) (fun c18047 => ?_)
          · refine V_iconst (v := (0 : Int32)) dX12_here_61 rfl ?_
            exact key16045 _ (by rw [if_pos c18047])
          · refine V_aload_n dX12_here_54 rfl ?_
            refine U_getI dX12_here_55 fl_X12_114 s_68 rfl ?_
            refine V_goto dX12_here_58 ?_
            exact key16045 _ (by rw [if_neg (not_not_intro c18047)])
theorem tX12_hereY {E : aE} {P : Int32 → hI_ → hJ_ → Prop} {n : Nat} {B : Nat → Nat} {I : hI_} {J : hJ_} {k lo hx : Nat} {x : Int32} (hT : MT n B k I) (hxe : x = nI hx - 1) (hlo : lo < 100000) (hhx : hx < 100000) (k0 : cN_ n B k lo hx = 0 → P (nI (tV n B k)) I J) (k1 : cN_ n B k lo hx ≠ 0 → ∀ I2, frM I I2 → I2 68 3 = nI (cN_ n B k lo hx) → I2 68 4 = nI (tS n B k) → P 0 I2 J) : CallI E mX12_here [.ref 68, .int (nI lo), .int x] SH I J P := by
  have k4 := tK_4 n B k
  have vb := tV_b (n := n) (B := B) (k := k)
  by_cases z : tK n B k = 4
  · obtain ⟨a3, a4⟩ := hT.2.2.1 z
    have n0 : ¬ I 68 3 = 0 := by rw [a3]; decide
    have c1 : cN_ n B k lo hx = 1 := by unfold cN_; rw [if_pos z]
    refine wX12_here ⟨fun _ => ⟨fun _ => ?_, fun y => absurd y n0⟩, fun y => absurd y n0⟩
    rw [if_pos n0]
    exact k1 (by omega) I frM_rf (by rw [a3, c1]; rfl) a4
  · obtain ⟨a3, a7, a8⟩ := hT.2.2.2 z
    have e2 : (nI (tK n B k) = 2) ↔ tK n B k = 2 := nI_eqI (b := 2) (by omega) (by omega)
    have bad : ∀ c : Nat, cN_ n B k lo hx = c → c ≠ 0 → P 0 (upI (upI I 68 3 (nI c)) 68 4 (I 68 6)) J := fun c e hc => by
      refine k1 (by omega) _ (frM_tr (frM_up (by omega)) (frM_up (by omega))) ?_ ?_
      · rw [upI_at, if_neg (by omega), upI_at, if_pos ⟨rfl, rfl⟩, e]
      · rw [upI_at, if_pos ⟨rfl, rfl⟩]; exact hT.2.1
    have w3 : ∀ c : Nat, 0 < c → c < 100 → ¬ (upI (upI I 68 3 (nI c)) 68 4 (I 68 6)) 68 3 = 0 := fun c h1 h2 y => by
      rw [upI_at, if_neg (by omega), upI_at, if_pos ⟨rfl, rfl⟩] at y
      have := (nI_eqI (b := 0) (by omega) (by omega)).mp y
      omega
    refine wX12_here ⟨fun y => absurd a3 y, fun _ => ⟨fun z2 => ⟨fun y => absurd a3 y, fun _ => ⟨fun y => ?_, fun y => ?_⟩⟩, fun z2 => tX12_failsY a3 ⟨fun y => ?_, fun y => absurd y (w3 2 (by omega) (by omega))⟩⟩⟩
    · rw [a7] at z2
      have z2 := e2.mp z2
      rw [a8, hxe, nI_leJ (by omega) (by omega), le_nIm (by omega) (by omega)] at y
      rw [if_neg (fun v => v a3), a8]
      exact k0 (cN0.mpr ⟨z2, y⟩)
    · rw [a7] at z2
      have z2 := e2.mp z2
      rw [a8, hxe, nI_leJ (by omega) (by omega), le_nIm (by omega) (by omega)] at y
      refine tX12_failsY a3 ?_
      have : ¬ (upI (upI I 68 3 3) 68 4 (I 68 6)) 68 3 = 0 := w3 3 (by omega) (by omega)
      rw [if_pos this]
      exact bad 3 (by unfold cN_; rw [if_neg z, if_pos z2, if_neg y]) (by omega)
    · rw [a7] at z2
      rw [if_pos y]
      exact bad 2 (by unfold cN_; rw [if_neg z, if_neg (fun v => z2 (e2.mpr v))]) (by omega)
theorem wr_ne {I : hI_} {c : Nat} (h : I 68 3 = nI c) (hc : 0 < c) (hc2 : c < 100) : ¬ I 68 3 = 0 := fun y => by
  rw [h] at y
  have := (nI_eqI (b := 0) (by omega) (by omega)).mp y
  omega
theorem tX12_hereN {E : aE} {P : Int32 → hI_ → hJ_ → Prop} {I : hI_} {J : hJ_} {c : Nat} {lo x : Int32} (h : I 68 3 = nI c) (hc : 0 < c) (hc2 : c < 100) (k : P 0 I J) : CallI E mX12_here [.ref 68, .int lo, .int x] SH I J P := by
  have n0 := wr_ne h hc hc2
  refine wX12_here ⟨fun _ => ⟨fun _ => ?_, fun y => absurd y n0⟩, fun y => absurd y n0⟩
  rw [if_pos n0]; exact k
set_option maxHeartbeats 4000000 in
set_option maxRecDepth 20000 in
theorem wX12_number {E : aE} {P : Int32 → hI_ → hJ_ → Prop} {I : hI_} {J : hJ_} {a0 : Int32} {a1 : Int32} (k : CallI E mX12_here [.ref 68, .int a0, .int a1] SH I J (fun x1 I2 J3 => CallV E mX12_next [.ref 68] SH I2 J3 (fun I5 J6 => P x1 I5 J6))) : CallI E mX12_number [.ref 68, .int a0, .int a1] SH I J P := by
  refine Call_of (L := [.ref 68, .int a0, .int a1, .retAddr 0]) ok_X12_number.1 rfl rfl ?_
  refine V_aload_n dX12_number_0 rfl ?_
  refine V_iload_n dX12_number_1 rfl ?_
  refine V_iload_n dX12_number_2 rfl ?_
  refine U_callV1 [.int a0, .int a1] dX12_number_3 ov_X12_129 s_68 rfl ⟨rfl, rfl, rfl⟩ rfl rfl rfl (CallI_mono k (fun x1 I2 J3 k => ?_))
  refine U_istore_n (L2 := [.ref 68, .int a0, .int a1, .int x1]) dX12_number_6 (by decide) rfl ?_
  refine V_aload_n dX12_number_7 rfl ?_
  refine U_callV0 [] dX12_number_8 ov_X12_133 s_68 rfl ⟨rfl, rfl, rfl⟩ rfl rfl rfl (CallV_mono k (fun I5 J6 k => ?_))
  refine V_iload_n dX12_number_11 rfl ?_
  exact V_iret dX12_number_12 ⟨_, rfl, rfl⟩ rfl rfl ⟨_, _, _, rfl, rfl, k⟩
theorem tX12_numberY {E : aE} {P : Int32 → hI_ → hJ_ → Prop} {n : Nat} {B : Nat → Nat} {I : hI_} {J : hJ_} {k lo hx : Nat} {x : Int32} (hB : MB n B I) (hk : k ≤ n) (hT : MT n B k I) (hxe : x = nI hx - 1) (hlo : lo < 100000) (hhx : hx < 100000) (k0 : cN_ n B k lo hx = 0 → ∀ I2, frM I I2 → MT n B (tE n B k) I2 → P (nI (tV n B k)) I2 J) (k1 : cN_ n B k lo hx ≠ 0 → ∀ I2, frM I I2 → I2 68 3 = nI (cN_ n B k lo hx) → I2 68 4 = nI (tS n B k) → P 0 I2 J) : CallI E mX12_number [.ref 68, .int (nI lo), .int x] SH I J P := by
  have he := (tE_b (B := B) hk).2.1
  have c3 := cN3 (n := n) (B := B) (k := k) (lo := lo) (hx := hx)
  refine wX12_number (tX12_hereY hT hxe hlo hhx (fun c => ?_) (fun c I2 f a3 a4 => tX12_nextN a3 (by omega) (by omega) (k1 c I2 f a3 a4)))
  have d := cN0.mp c
  exact tX12_nextY hB (hT.2.2.2 (by omega)).1 hT.1 he (fun I2 f hT2 => k0 c I2 f hT2)
theorem tX12_numberN {E : aE} {P : Int32 → hI_ → hJ_ → Prop} {I : hI_} {J : hJ_} {c : Nat} {lo x : Int32} (h : I 68 3 = nI c) (hc : 0 < c) (hc2 : c < 100) (k : P 0 I J) : CallI E mX12_number [.ref 68, .int lo, .int x] SH I J P := wX12_number (tX12_hereN h hc hc2 (tX12_nextN h hc hc2 k))
/-- what is asked behind a line of the model's -/
def LMc (n : Nat) (B : Nat → Nat) (I : hI_) (J : hJ_) (r : Nat × Nat × Nat × (Nat → Nat)) (P : hI_ → hJ_ → Prop) : Prop := ∀ I2, frQ I I2 → (r.1 = 0 → MT n B r.2.2.1 I2 ∧ (tK n B r.2.2.1 ≠ 4 → MD r.2.2.2 I2)) → (r.1 ≠ 0 → I2 68 3 = nI r.1 ∧ I2 68 4 = nI r.2.1) → P I2 J
theorem MLB {n : Nat} {B : Nat → Nat} {I : hI_} {J : hJ_} {r : Nat × Nat × Nat × (Nat → Nat)} {P : hI_ → hJ_ → Prop} (k : LMc n B I J r P) {c s : Nat} {D : Nat → Nat} (hr : r = (c, s, 0, D)) (hc : c ≠ 0) {I2 : hI_} (hf : frQ I I2) (h2 : I2 68 3 = nI c) (h3 : I2 68 4 = nI s) : P I2 J := k I2 hf (by rw [hr]; exact fun z => absurd z hc) (by rw [hr]; exact fun _ => ⟨h2, h3⟩)
theorem MLG {n : Nat} {B : Nat → Nat} {I : hI_} {J : hJ_} {r : Nat × Nat × Nat × (Nat → Nat)} {P : hI_ → hJ_ → Prop} (k : LMc n B I J r P) {k' : Nat} {D : Nat → Nat} (hr : r = (0, 0, k', D)) {I2 : hI_} (hf : frQ I I2) (h2 : MT n B k' I2) (h3 : tK n B k' ≠ 4 → MD D I2) : P I2 J := k I2 hf (by rw [hr]; exact fun _ => ⟨h2, h3⟩) (by rw [hr]; exact fun z => absurd rfl z)
theorem mfail_st {n : Nat} {B : Nat → Nat} {k : Nat} {I I2 : hI_} {c : Nat} (hf : frQ I I2) (hT : MT n B k I2) : frQ I (upI (upI I2 68 3 (nI c)) 68 4 (I2 68 6)) ∧ (upI (upI I2 68 3 (nI c)) 68 4 (I2 68 6)) 68 3 = nI c ∧ (upI (upI I2 68 3 (nI c)) 68 4 (I2 68 6)) 68 4 = nI (tS n B k) := by
  refine ⟨frQ_tr hf (frQ_M (frM_tr (frM_up (by omega)) (frM_up (by omega)))), ?_, ?_⟩
  · rw [upI_at, if_neg (by omega)]; exact upI_same
  · rw [upI_at, if_pos ⟨rfl, rfl⟩]; exact hT.2.1
def HX12_readWay_49 (E : aE) (P : hI_ → hJ_ → Prop) (v1 : Int32) (v2 : Int32) (I : hI_) (J : hJ_) : Prop := V E mX12_readWay (kV SH P) 49 [.ref 68, .int v1, .int v2, .retAddr 0] [] (SH, I, J) (0, 0)
def HX12_readWay_74 (E : aE) (P : hI_ → hJ_ → Prop) (v1 : Int32) (v2 : Int32) (I : hI_) (J : hJ_) : Prop := V E mX12_readWay (kV SH P) 74 [.ref 68, .int v1, .int v2, .retAddr 0] [] (SH, I, J) (0, 0)
set_option maxHeartbeats 4000000 in
set_option maxRecDepth 20000 in
theorem wX12_readWay {E : aE} {P : hI_ → hJ_ → Prop} {I : hI_} {J : hJ_}  (k : CallV E mX12_next [.ref 68] SH I J (fun I2 J3 => CallI E mX12_number [.ref 68, .int (0 : Int32), .int ((I2 77 0) - (1 : Int32))] SH I2 J3 (fun x4 I5 J6 => CallI E mX12_here [.ref 68, .int (0 : Int32), .int ((I5 77 0) - (1 : Int32))] SH I5 J6 (fun x7 I8 J9 => ((¬ (I8 68 3) = (0 : Int32) → HX12_readWay_49 E P x4 x7 I8 J9) ∧ ((I8 68 3) = (0 : Int32) → ((¬ x4 = x7 → HX12_readWay_49 E P x4 x7 I8 J9) ∧ (x4 = x7 → CallV E mX12_fails [.ref 68, .int (3 : Int32)] SH I8 J9 (fun I13 J14 => HX12_readWay_49 E P x4 x7 I13 J14))))))))) : CallV E mX12_readWay [.ref 68] SH I J P := by
  refine Call_of (L := [.ref 68, .retAddr 0, .retAddr 0, .retAddr 0]) ok_X12_readWay.1 rfl rfl ?_
  refine V_aload_n dX12_readWay_0 rfl ?_
  refine U_callV0 [] dX12_readWay_1 ov_X12_133 s_68 rfl ⟨rfl, rfl, rfl⟩ rfl rfl rfl (CallV_mono k (fun I2 J3 k => ?_))
  refine V_aload_n dX12_readWay_4 rfl ?_
  refine V_iconst (v := (0 : Int32)) dX12_readWay_5 rfl ?_
  refine V_aload_n dX12_readWay_6 rfl ?_
  refine U_getR dX12_readWay_7 fl_X12_34 s_68 rfl ?_
  refine V_iconst (v := (0 : Int32)) dX12_readWay_10 rfl ?_
  refine U_ialdx (x := I2 77 0) dX12_readWay_11 s_77 (by unfold vp_in; decide) rfl ?_
  refine V_iconst (v := (1 : Int32)) dX12_readWay_12 rfl ?_
  refine V_isub dX12_readWay_13 ?_
  refine U_callV1 [.int (0 : Int32), .int ((I2 77 0) - (1 : Int32))] dX12_readWay_14 ov_X12_136 s_68 rfl ⟨rfl, rfl, rfl⟩ rfl rfl rfl (CallI_mono k (fun x4 I5 J6 k => ?_))
  refine U_istore_n (L2 := [.ref 68, .int x4, .retAddr 0, .retAddr 0]) dX12_readWay_17 (by decide) rfl ?_
  refine V_aload_n dX12_readWay_18 rfl ?_
  refine V_iconst (v := (0 : Int32)) dX12_readWay_19 rfl ?_
  refine V_aload_n dX12_readWay_20 rfl ?_
  refine U_getR dX12_readWay_21 fl_X12_34 s_68 rfl ?_
  refine V_iconst (v := (0 : Int32)) dX12_readWay_24 rfl ?_
  refine U_ialdx (x := I5 77 0) dX12_readWay_25 s_77 (by unfold vp_in; decide) rfl ?_
  refine V_iconst (v := (1 : Int32)) dX12_readWay_26 rfl ?_
  refine V_isub dX12_readWay_27 ?_
  refine U_callV1 [.int (0 : Int32), .int ((I5 77 0) - (1 : Int32))] dX12_readWay_28 ov_X12_129 s_68 rfl ⟨rfl, rfl, rfl⟩ rfl rfl rfl (CallI_mono k (fun x7 I8 J9 k => ?_))
  refine U_istore_n (L2 := [.ref 68, .int x4, .int x7, .retAddr 0]) dX12_readWay_31 (by decide) rfl ?_
  refine V_aload_n dX12_readWay_32 rfl ?_
  refine U_getI dX12_readWay_33 fl_X12_95 s_68 rfl ?_
  refine V_if_ne dX12_readWay_36 (fun c10 => ?_) (fun c10 => ?_)
  · have k := k.1 c10
    exact k
  · have k := k.2 c10
    refine V_iload_n dX12_readWay_39 rfl ?_
    refine V_iload_n dX12_readWay_40 rfl ?_
    refine V_icmp_ne dX12_readWay_41 (fun c11 => ?_) (fun c11 => ?_)
    · have k := k.1 c11
      exact k
    · have k := k.2 c11
      refine V_aload_n dX12_readWay_44 rfl ?_
      refine V_iconst (v := (3 : Int32)) dX12_readWay_45 rfl ?_
      refine U_callV0 [.int (3 : Int32)] dX12_readWay_46 ov_X12_125 s_68 rfl ⟨rfl, rfl, rfl⟩ rfl rfl rfl (CallV_mono k (fun I13 J14 k => ?_))
      exact k
set_option maxHeartbeats 4000000 in
set_option maxRecDepth 20000 in
theorem wX12_readWay_49 {E : aE} {P : hI_ → hJ_ → Prop} {I : hI_} {J : hJ_} {v1 : Int32} {v2 : Int32} (k : ((¬ (I 68 3) = (0 : Int32) → HX12_readWay_74 E P v1 v2 I J) ∧ ((I 68 3) = (0 : Int32) → (vp_in (((5 : Int32) * v1) + v2) 25) ∧ (((I 79 (((5 : Int32) * v1) + v2).toNatClampNeg) ≤ (0 : Int32) → HX12_readWay_74 E P v1 v2 I J) ∧ (¬ ((I 79 (((5 : Int32) * v1) + v2).toNatClampNeg) ≤ (0 : Int32)) → CallV E mX12_fails [.ref 68, .int (4 : Int32)] SH I J (fun I5 J6 => HX12_readWay_74 E P v1 v2 I5 J6)))))) : HX12_readWay_49 E P v1 v2 I J := by
  show V E mX12_readWay (kV SH P) 49 [.ref 68, .int v1, .int v2, .retAddr 0] [] (SH, I, J) (0, 0)
  refine V_aload_n dX12_readWay_49 rfl ?_
  refine U_getI dX12_readWay_50 fl_X12_95 s_68 rfl ?_
  refine V_if_ne dX12_readWay_53 (fun c1 => ?_) (fun c1 => ?_)
  · have k := k.1 c1
    exact k
  · have k := k.2 c1
    refine V_aload_n dX12_readWay_56 rfl ?_
    refine U_getR dX12_readWay_57 fl_X12_40 s_68 rfl ?_
    refine V_iconst (v := (5 : Int32)) dX12_readWay_60 rfl ?_
    refine V_iload_n dX12_readWay_61 rfl ?_
    refine V_imul dX12_readWay_62 ?_
    refine V_iload_n dX12_readWay_63 rfl ?_
    refine V_iadd dX12_readWay_64 ?_
    obtain ⟨hb2, k⟩ := k
    refine U_iald dX12_readWay_65 s_79 hb2 ?_
    refine V_if_le dX12_readWay_66 (fun c3 => ?_) (fun c3 => ?_)
    · have k := k.1 c3
      exact k
    · have k := k.2 c3
      refine V_aload_n dX12_readWay_69 rfl ?_
      refine V_iconst (v := (4 : Int32)) dX12_readWay_70 rfl ?_
      refine U_callV0 [.int (4 : Int32)] dX12_readWay_71 ov_X12_125 s_68 rfl ⟨rfl, rfl, rfl⟩ rfl rfl rfl (CallV_mono k (fun I5 J6 k => ?_))
      exact k
set_option maxHeartbeats 4000000 in
set_option maxRecDepth 20000 in
theorem wX12_readWay_74 {E : aE} {P : hI_ → hJ_ → Prop} {I : hI_} {J : hJ_} {v1 : Int32} {v2 : Int32} (k : CallV E mX12_next [.ref 68] SH I J (fun I2 J3 => CallI E mX12_number [.ref 68, .int (1 : Int32), .int (99 : Int32)] SH I2 J3 (fun x4 I5 J6 => ((¬ (I5 68 3) = (0 : Int32) → P I5 J6) ∧ ((I5 68 3) = (0 : Int32) → (vp_in (((5 : Int32) * v1) + v2) 25) ∧ (vp_in (((5 : Int32) * v2) + v1) 25) ∧ P (upI (upI (upI I5 79 ((((5 : Int32) * v1) + v2).toNatClampNeg) x4) 79 ((((5 : Int32) * v2) + v1).toNatClampNeg) x4) 77 1 ((I5 77 1) + (1 : Int32))) J6))))) : HX12_readWay_74 E P v1 v2 I J := by
  show V E mX12_readWay (kV SH P) 74 [.ref 68, .int v1, .int v2, .retAddr 0] [] (SH, I, J) (0, 0)
  refine V_aload_n dX12_readWay_74 rfl ?_
  refine U_callV0 [] dX12_readWay_75 ov_X12_133 s_68 rfl ⟨rfl, rfl, rfl⟩ rfl rfl rfl (CallV_mono k (fun I2 J3 k => ?_))
  refine V_aload_n dX12_readWay_78 rfl ?_
  refine V_iconst (v := (1 : Int32)) dX12_readWay_79 rfl ?_
  refine V_bipush (v := (99 : Int32)) dX12_readWay_80 rfl ?_
  refine U_callV1 [.int (1 : Int32), .int (99 : Int32)] dX12_readWay_82 ov_X12_136 s_68 rfl ⟨rfl, rfl, rfl⟩ rfl rfl rfl (CallI_mono k (fun x4 I5 J6 k => ?_))
  refine U_istore_n (L2 := [.ref 68, .int v1, .int v2, .int x4]) dX12_readWay_85 (by decide) rfl ?_
  refine V_aload_n dX12_readWay_86 rfl ?_
  refine U_getI dX12_readWay_87 fl_X12_95 s_68 rfl ?_
  refine V_if_ne dX12_readWay_90 (fun c7 => ?_) (fun c7 => ?_)
  · have k := k.1 c7
    exact V_vret dX12_readWay_125 rfl rfl rfl ⟨_, _, rfl, k⟩
  · have k := k.2 c7
    refine V_aload_n dX12_readWay_93 rfl ?_
    refine U_getR dX12_readWay_94 fl_X12_40 s_68 rfl ?_
    refine V_iconst (v := (5 : Int32)) dX12_readWay_97 rfl ?_
    refine V_iload_n dX12_readWay_98 rfl ?_
    refine V_imul dX12_readWay_99 ?_
    refine V_iload_n dX12_readWay_100 rfl ?_
    refine V_iadd dX12_readWay_101 ?_
    refine V_iload_n dX12_readWay_102 rfl ?_
    obtain ⟨hb8, k⟩ := k
    refine U_iast dX12_readWay_103 s_79 hb8 ?_
    refine V_aload_n dX12_readWay_104 rfl ?_
    refine U_getR dX12_readWay_105 fl_X12_40 s_68 rfl ?_
    refine V_iconst (v := (5 : Int32)) dX12_readWay_108 rfl ?_
    refine V_iload_n dX12_readWay_109 rfl ?_
    refine V_imul dX12_readWay_110 ?_
    refine V_iload_n dX12_readWay_111 rfl ?_
    refine V_iadd dX12_readWay_112 ?_
    refine V_iload_n dX12_readWay_113 rfl ?_
    obtain ⟨hb9, k⟩ := k
    refine U_iast dX12_readWay_114 s_79 hb9 ?_
    refine V_aload_n dX12_readWay_115 rfl ?_
    refine U_getR dX12_readWay_116 fl_X12_34 s_68 rfl ?_
    refine V_iconst (v := (1 : Int32)) dX12_readWay_119 rfl ?_
    refine V_dup2 dX12_readWay_120 ?_
    refine U_ialdx (x := I5 77 1) dX12_readWay_121 s_77 (by unfold vp_in; decide) rfl ?_
    refine V_iconst (v := (1 : Int32)) dX12_readWay_122 rfl ?_
    refine V_iadd dX12_readWay_123 ?_
    refine U_iast dX12_readWay_124 s_77 (by unfold vp_in; decide) ?_
    exact V_vret dX12_readWay_125 rfl rfl rfl ⟨_, _, rfl, k⟩
theorem way_b74 {E : aE} {P : hI_ → hJ_ → Prop} {I : hI_} {J : hJ_} {c : Nat} {v1 v2 : Int32} (h : I 68 3 = nI c) (hc : 0 < c) (hc2 : c < 100) (k : P I J) : HX12_readWay_74 E P v1 v2 I J := wX12_readWay_74 (tX12_nextN h hc hc2 (tX12_numberN h hc hc2 ⟨fun _ => k, fun z => absurd z (wr_ne h hc hc2)⟩))
theorem way_b49 {E : aE} {P : hI_ → hJ_ → Prop} {I : hI_} {J : hJ_} {c : Nat} {v1 v2 : Int32} (h : I 68 3 = nI c) (hc : 0 < c) (hc2 : c < 100) (k : P I J) : HX12_readWay_49 E P v1 v2 I J := wX12_readWay_49 ⟨fun _ => way_b74 h hc hc2 k, fun z => absurd z (wr_ne h hc hc2)⟩
theorem tX12_readWay {E : aE} {P : hI_ → hJ_ → Prop} {n : Nat} {B : Nat → Nat} {I : hI_} {J : hJ_} {k0 : Nat} {D : Nat → Nat} (h : MB n B I) (hk : k0 ≤ n) (hT : MT n B k0 I) (h4 : tK n B k0 ≠ 4) (hD : MD D I) (ok : DOK D) (kk : LMc n B I J (lnWay n B (tE n B k0) D) P) : CallV E mX12_readWay [.ref 68] SH I J P := by
  have o1 := ok.1
  have he := (tE_b (B := B) hk).2.1
  have he2 := (tE_b (B := B) he).2.1
  have he3 := (tE_b (B := B) he2).2.1
  unfold lnWay at kk
  have hT0 := hT.1
  have hw := (hT.2.2.2 h4).1
  generalize hk1 : tE n B k0 = k1 at *
  generalize hk2 : tE n B k1 = k2 at *
  generalize hk3 : tE n B k2 = k3 at *
  have cl : ∀ k lo hx, cN_ n B k lo hx ≠ 0 → 0 < cN_ n B k lo hx ∧ cN_ n B k lo hx < 100 := fun k lo hx y => by
    have := cN3 (n := n) (B := B) (k := k) (lo := lo) (hx := hx)
    omega
  refine wX12_readWay (tX12_nextY h hw hT0 he (fun I1 f1 hT1 => ?_))
  have hD1 := MD_M hD f1
  rw [hD1.1 0 (by omega)]
  refine tX12_numberY (lo := 0) (hx := D 0) (MB_fr h f1) he hT1 rfl (by omega) (by omega) (fun c1 I2 f2 hT2 => ?_) (fun c1 I2 f2 a3 a4 => ?_)
  · rw [hk2] at hT2
    have hD2 := MD_M hD1 f2
    have f12 := frM_tr f1 f2
    rw [hD2.1 0 (by omega)]
    have d1 := cN0.mp c1
    refine tX12_hereY (lo := 0) (hx := D 0) hT2 rfl (by omega) (by omega) (fun c2 => ?_) (fun c2 I3 f3 a3 a4 => ?_)
    · have d2 := cN0.mp c2
      have va : tV n B k1 < 5 := by omega
      have vb : tV n B k2 < 5 := by omega
      have w2 := (hT2.2.2.2 (by omega)).1
      have wab := ok.2.2.2.1 _ _ va vb
      have e5 : (5 : Int32) * nI (tV n B k1) + nI (tV n B k2) = nI (5 * tV n B k1 + tV n B k2) := by rw [show (5 : Int32) = nI 5 from rfl, pk_mul, nI_add]
      have e5' : (5 : Int32) * nI (tV n B k2) + nI (tV n B k1) = nI (5 * tV n B k2 + tV n B k1) := by rw [show (5 : Int32) = nI 5 from rfl, pk_mul, nI_add]
      refine ⟨fun z => absurd w2 z, fun _ => ⟨fun z => ?_, fun z => ?_⟩⟩
      · have z : ¬ tV n B k1 = tV n B k2 := fun w => z (by rw [w])
        refine wX12_readWay_49 ⟨fun y => absurd w2 y, fun _ => ?_⟩
        rw [e5, nI_clamp (by omega), hD2.2.2.1 _ (by omega), show 40 + (5 * tV n B k1 + tV n B k2) = 40 + 5 * tV n B k1 + tV n B k2 by omega]
        refine ⟨vp_in_nI (by omega) (by omega), fun y => ?_, fun y => ?_⟩
        · have y : ¬ 0 < D (40 + 5 * tV n B k1 + tV n B k2) := by
            have := (nI_leJ (b := 0) (by omega) (by omega)).mp y
            omega
          refine wX12_readWay_74 (tX12_nextY (MB_fr h f12) w2 hT2.1 (by rw [hk3]; exact he3) (fun I4 f4 hT4 => ?_))
          rw [hk3] at hT4
          have hD4 := MD_M hD2 f4
          have f14 := frM_tr f12 f4
          refine tX12_numberY (lo := 1) (hx := 100) (MB_fr h f14) he3 hT4 rfl (by omega) (by omega) (fun c3 I5 f5 hT5 => ?_) (fun c3 I5 f5 a3 a4 => ?_)
          · have hD5 := MD_M hD4 f5
            have f15 := frM_tr f14 f5
            have hr : lnWay3 n B k1 k2 k3 D = (0, 0, tE n B k3, dWay D (tV n B k1) (tV n B k2) (tV n B k3)) := by unfold lnWay3; rw [if_pos c1, if_pos c2, if_neg z, if_neg y, if_pos c3]
            by_cases t4 : tK n B (tE n B k3) = 4
            · have a3 := (hT5.2.2.1 t4).1
              refine ⟨fun _ => MLG kk hr (frQ_M f15) hT5 (fun w => absurd t4 w), fun w => absurd w (wr_ne (c := 1) a3 (by omega) (by omega))⟩
            · have a3 := (hT5.2.2.2 t4).1
              refine ⟨fun w => absurd a3 w, fun _ => ?_⟩
              rw [e5, e5', nI_clamp (by omega), nI_clamp (by omega), hD5.1 1 (by omega), nI_1]
              refine ⟨vp_in_nI (by omega) (by omega), vp_in_nI (by omega) (by omega), MLG kk hr (frQ_tr (frQ_M f15) (frQ_tr (frQ_up (by omega)) (frQ_tr (frQ_up (by omega)) (frQ_up (by omega))))) (MT_up (MT_up (MT_up hT5 (by omega)) (by omega)) (by omega)) (fun _ => ?_)⟩
              obtain ⟨b1, b2, b3, b4, b5⟩ := hD5
              unfold dWay
              generalize tV n B k1 = a at *
              generalize tV n B k2 = b at *
              generalize tV n B k3 = v at *
              have o : ∀ j, j ≠ 1 → (j < 40 ∨ 65 ≤ j) → upN (upN (upN D (40 + 5 * a + b) v) (40 + 5 * b + a) v) 1 (D 1 + 1) j = D j := fun j h1 h2 => by rw [upN_o h1, upN_o (by omega), upN_o (by omega)]
              refine ⟨fun j hj => ?_, fun i hi => ?_, fun q hq => ?_, fun j hj => ?_, ?_⟩
              · rw [upI_at]
                by_cases w : j = 1
                · rw [if_pos ⟨rfl, w⟩, w, upN_e]
                · rw [if_neg (fun u => w u.2), upI_at, if_neg (by omega), upI_at, if_neg (by omega), o j w (by omega)]; exact b1 j hj
              · rw [o 0 (by omega) (by omega)] at hi
                rw [upI_at, if_neg (by omega), upI_at, if_neg (by omega), upI_at, if_neg (by omega), o _ (by omega) (by omega)]; exact b2 i hi
              · rw [upI_at, if_neg (by omega), upI_at, upN_o (by omega)]
                by_cases w : q = 5 * b + a
                · rw [if_pos ⟨rfl, w⟩, w, show 40 + (5 * b + a) = 40 + 5 * b + a by omega, upN_e]
                · rw [if_neg (fun u => w u.2), upN_o (by omega), upI_at]
                  by_cases w2 : q = 5 * a + b
                  · rw [if_pos ⟨rfl, w2⟩, w2, show 40 + (5 * a + b) = 40 + 5 * a + b by omega, upN_e]
                  · rw [if_neg (fun u => w2 u.2), upN_o (by omega)]; exact b3 q hq
              · rw [o 2 (by omega) (by omega)] at hj
                rw [upI_at, if_neg (by omega), upI_at, if_neg (by omega), upI_at, if_neg (by omega), o _ (by omega) (by omega)]; exact b4 j hj
              · rw [upI_at, if_neg (by omega), upI_at, if_neg (by omega), upI_at, if_neg (by omega), o 8 (by omega) (by omega), o 9 (by omega) (by omega), o 10 (by omega) (by omega)]; exact b5
          · have cc := cl _ _ _ c3
            exact ⟨fun _ => MLB kk (by unfold lnWay3; rw [if_pos c1, if_pos c2, if_neg z, if_neg y, if_neg c3]) c3 (frQ_M (frM_tr f14 f5)) a3 a4, fun w => absurd w (wr_ne a3 cc.1 cc.2)⟩
        · have y : 0 < D (40 + 5 * tV n B k1 + tV n B k2) := by
            rcases Nat.eq_zero_or_pos (D (40 + 5 * tV n B k1 + tV n B k2)) with w | w
            · exact absurd (by rw [w]; exact Int32.le_refl _) y
            · exact w
          have ff := mfail_st (c := 4) (frQ_M f12) hT2
          exact tX12_failsY w2 (way_b74 ff.2.1 (by omega) (by omega) (MLB kk (by unfold lnWay3; rw [if_pos c1, if_pos c2, if_neg z, if_pos y]) (by omega) ff.1 ff.2.1 ff.2.2))
      · have z := (nI_eqI (by omega) (by omega)).mp z
        have ff := mfail_st (c := 3) (frQ_M f12) hT2
        exact tX12_failsY w2 (way_b49 ff.2.1 (by omega) (by omega) (MLB kk (by unfold lnWay3; rw [if_pos c1, if_pos c2, if_pos z]) (by omega) ff.1 ff.2.1 ff.2.2))
    · have cc := cl _ _ _ c2
      exact ⟨fun _ => way_b49 a3 cc.1 cc.2 (MLB kk (by unfold lnWay3; rw [if_pos c1, if_neg c2]) c2 (frQ_M (frM_tr f12 f3)) a3 a4), fun w => absurd w (wr_ne a3 cc.1 cc.2)⟩
  · have cc := cl _ _ _ c1
    refine tX12_hereN a3 cc.1 cc.2 ⟨fun _ => way_b49 a3 cc.1 cc.2 (MLB kk (by unfold lnWay3; rw [if_neg c1]) c1 (frQ_M (frM_tr f1 f2)) a3 a4), fun w => absurd w (wr_ne a3 cc.1 cc.2)⟩
