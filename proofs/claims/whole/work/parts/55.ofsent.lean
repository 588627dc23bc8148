theorem unN_X {I I2 : hI_} (h : agX I I2) (c : Nat) : unN I2 c = unN I c := by unfold unN; rw [cK_X h]
theorem stB_X {I I2 : hI_} (h : agX I I2) (c t : Int32) : stB I2 c t = stB I c t := by
  unfold stB its
  rw [lu_X h, h 82 rfl]
theorem aD_X {I I2 : hI_} (h : agX I I2) (d : Nat) : aD I2 d = aD I d := aD_e (wI_X h) (h 82 rfl) d
theorem kD_X {I I2 : hI_} (h : agX I I2) (d : Nat) : kD I2 d = kD I d := kD_e (wI_X h) (h 73 rfl) (h 82 rfl) d
theorem cD_X {I I2 : hI_} (h : agX I I2) (d : Nat) : cD I2 d = cD I d := (pcuD_e (h 82 rfl) d).2.1
theorem pD_X {I I2 : hI_} (h : agX I I2) (d : Nat) : pD I2 d = pD I d := (pcuD_e (h 82 rfl) d).1
theorem mD_X {I I2 : hI_} (h : agX I I2) (d : Nat) : mD I2 d = mD I d := (pcuD_e (h 82 rfl) d).2.2.1
theorem uD_X {I I2 : hI_} (h : agX I I2) (d : Nat) : uD I2 d = uD I d := (pcuD_e (h 82 rfl) d).2.2.2
theorem tkF_X {I I2 : hI_} (h : agX I I2) : ∀ (f d : Nat), tkF I2 f d = tkF I f d
  | 0, _ => rfl
  | f + 1, d => by
    rw [tkF_s, tkF_s, stB_X h, cD_X h, aD_X h, uD_X h, unN_X h, nD_X h]
    have e : sm (fun e => if cD I2 e = cD I d ∧ kD I2 e < kD I2 d then tkF I2 f e else 0) (nD I) = sm (fun e => if cD I e = cD I d ∧ kD I e < kD I d then tkF I f e else 0) (nD I) := by
      refine sm_e _ (fun e he => ?_)
      rw [cD_X h, kD_X h, kD_X h, tkF_X h f e]
    rw [e]
theorem tk_X {I I2 : hI_} (h : agX I I2) (d : Nat) : tk I2 d = tk I d := tkF_X h 25 d
theorem tot_X {I I2 : hI_} (h : agX I I2) (c : Nat) (g : Nat → Bool) : tot I2 c g = tot I c g := by
  unfold tot
  rw [nD_X h]
  refine sm_e _ (fun e he => ?_)
  rw [cD_X h, tk_X h]
theorem mxA_X {I I2 : hI_} (h : agX I I2) (c : Nat) (g : Nat → Bool) : ∀ n, mxA I2 c g n = mxA I c g n
  | 0 => rfl
  | n + 1 => by rw [mxA_s, mxA_s, mxA_X h c g n, cD_X h, tk_X h, aD_X h]
theorem tk_le {I : hI_} (h : Rel I) {d : Nat} (hd : d < nD I) : tk I d ≤ 99 := by
  have ok := deal_ok h hd
  rw [tk_eq h hd]
  split <;> omega
set_option maxHeartbeats 4000000 in
set_option maxRecDepth 20000 in
theorem wX11_of {E : aE} {P : Int32 → hI_ → hJ_ → Prop} {I : hI_} {J : hJ_} {a0 : Int32} {a1 : Int32} (k : ((¬ (0 ≤ a0 ∧ a0 ≤ I 24 3 - 1) → P (-1 : Int32) I J) ∧ ((0 ≤ a0 ∧ a0 ≤ I 24 3 - 1) → ((((0 : Int32) ≤ a1 ∧ a1 ≤ (9 : Int32)) → (((7 : Int32) ≤ a1 → ((¬ a1 = (7 : Int32) → CallV E mX7_settle [.ref 29] SH I J (fun I6 J7 => ((¬ a1 = (8 : Int32)) → vp_in a0 12) ∧ ((a1 = (8 : Int32)) → rok I6 24 8 12) ∧ ((a1 = (8 : Int32)) → vp_in a0 12) ∧ P (if ¬ a1 = (8 : Int32) then (I6 35 a0.toNatClampNeg) else ((rat I6 24 25 a0 (4 : Int32)) - (I6 33 a0.toNatClampNeg))) I6 J7)) ∧ (a1 = (7 : Int32) → (cOK I a0) ∧ P (nI (lu I a0.toNatClampNeg) - 1) I J))) ∧ (¬ ((7 : Int32) ≤ a1) → (rok I 24 8 12) ∧ P (rat I 24 25 a0 a1) I J))) ∧ (¬ (((0 : Int32) ≤ a1 ∧ a1 ≤ (9 : Int32))) → P (-1 : Int32) I J))))) : CallI E mX11_of [.ref 0, .int a0, .int a1] SH I J P := by
  refine Call_of (L := [.ref 0, .int a0, .int a1]) ok_X11_of.1 rfl rfl ?_
  refine V_aload_n dX11_of_0 rfl ?_
  refine V_iload_n dX11_of_1 rfl ?_
  refine U_callV1 [.int a0] dX11_of_2 ov_X11_206 s_0 rfl ⟨rfl, rfl, rfl⟩ rfl rfl rfl (tX11_isCall ?_)
  refine U_ifb_eq dX11_of_5 (fun c1 => ?_) (fun c1 => ?_)
  · have k := k.1 c1
    refine V_iconst (v := (-1 : Int32)) dX11_of_18 rfl ?_
    exact V_iret dX11_of_19 ⟨_, rfl, rfl⟩ rfl rfl ⟨_, _, _, rfl, rfl, k⟩
  · have k := k.2 c1
    refine V_iload_n dX11_of_8 rfl ?_
    refine V_iconst (v := (0 : Int32)) dX11_of_9 rfl ?_
    refine V_bipush (v := (9 : Int32)) dX11_of_10 rfl ?_
    refine U_callS1 [.int a1, .int (0 : Int32), .int (9 : Int32)] dX11_of_12 os_X11_104 ⟨rfl, rfl, rfl⟩ rfl rfl rfl (tX11_within ?_)
    refine U_ifb_ne dX11_of_15 (fun c2 => ?_) (fun c2 => ?_)
    · have k := k.1 c2
      refine V_iload_n dX11_of_20 rfl ?_
      refine V_bipush (v := (7 : Int32)) dX11_of_21 rfl ?_
      refine V_icmp_ge dX11_of_23 (fun c3 => ?_) (fun c3 => ?_)
      · have k := k.1 c3
        refine V_iload_n dX11_of_39 rfl ?_
        refine V_bipush (v := (7 : Int32)) dX11_of_40 rfl ?_
        refine V_icmp_ne dX11_of_42 (fun c4 => ?_) (fun c4 => ?_)
        · have k := k.1 c4
          refine V_aload_n dX11_of_54 rfl ?_
          refine U_getR dX11_of_55 fl_X11_60 s_0 rfl ?_
          refine U_callV0 [] dX11_of_58 ov_X11_215 s_29 rfl ⟨rfl, rfl, rfl⟩ rfl rfl rfl (CallV_mono k (fun I6 J7 k => ?_))
          refine V_iload_n dX11_of_61 rfl ?_
          refine V_bipush (v := (8 : Int32)) dX11_of_62 rfl ?_
          obtain ⟨hc2013, hc2014, hc2015, k⟩ := k
          have key8 : ∀ (y2012 : Int32), y2012 = (if ¬ a1 = (8 : Int32) then (I6 35 a0.toNatClampNeg) else ((rat I6 24 25 a0 (4 : Int32)) - (I6 33 a0.toNatClampNeg))) → V E mX11_of (kI SH P) 101 [.ref 0, .int a0, .int a1] [.int y2012] (SH, I6, J7) (0, 0) := by
            intro y2012 ey2012
            subst ey2012
            exact V_iret dX11_of_101 ⟨_, rfl, rfl⟩ rfl rfl ⟨_, _, _, rfl, rfl, k⟩
          refine V_icmp_ne dX11_of_64 (fun c2016 => ?_) (fun c2016 => ?_)
          · refine V_aload_n dX11_of_92 rfl ?_
            refine U_getR dX11_of_93 fl_X11_60 s_0 rfl ?_
            refine U_getR dX11_of_96 fl_X11_221 s_29 rfl ?_
            refine V_iload_n dX11_of_99 rfl ?_
            have hb1009 := hc2013 c2016
            refine U_iald dX11_of_100 s_35 hb1009 ?_
            exact key8 _ (by rw [if_pos c2016])
          · refine V_aload_n dX11_of_67 rfl ?_
            refine U_getR dX11_of_68 fl_X11_47 s_0 rfl ?_
            refine U_getR dX11_of_71 fl_X11_203 s_21 rfl ?_
            refine V_iload_n dX11_of_74 rfl ?_
            refine V_iconst (v := (4 : Int32)) dX11_of_75 rfl ?_
            have hp2010 := hc2014 c2016
            refine U_callV1 [.int a0, .int (4 : Int32)] dX11_of_76 ov_X11_209 s_24 rfl ⟨rfl, rfl, rfl⟩ rfl rfl rfl (tX5_at s_24 s_25 (by decide) hp2010 ?_)
            refine V_aload_n dX11_of_79 rfl ?_
            refine U_getR dX11_of_80 fl_X11_60 s_0 rfl ?_
            refine U_getR dX11_of_83 fl_X11_218 s_29 rfl ?_
            refine V_iload_n dX11_of_86 rfl ?_
            have hb2011 := hc2015 c2016
            refine U_iald dX11_of_87 s_33 hb2011 ?_
            refine V_isub dX11_of_88 ?_
            refine V_goto dX11_of_89 ?_
            exact key8 _ (by rw [if_neg (not_not_intro c2016)])
        · have k := k.2 c4
          refine V_aload_n dX11_of_45 rfl ?_
          refine U_getR dX11_of_46 fl_X11_47 s_0 rfl ?_
          refine V_iload_n dX11_of_49 rfl ?_
          obtain ⟨hp2017, k⟩ := k
          refine U_callV1 [.int a0] dX11_of_50 ov_X11_212 s_21 rfl ⟨rfl, rfl, rfl⟩ rfl rfl rfl (tX1_lastMinute hp2017 ?_)
          exact V_iret dX11_of_53 ⟨_, rfl, rfl⟩ rfl rfl ⟨_, _, _, rfl, rfl, k⟩
      · have k := k.2 c3
        refine V_aload_n dX11_of_26 rfl ?_
        refine U_getR dX11_of_27 fl_X11_47 s_0 rfl ?_
        refine U_getR dX11_of_30 fl_X11_203 s_21 rfl ?_
        refine V_iload_n dX11_of_33 rfl ?_
        refine V_iload_n dX11_of_34 rfl ?_
        obtain ⟨hp2018, k⟩ := k
        refine U_callV1 [.int a0, .int a1] dX11_of_35 ov_X11_209 s_24 rfl ⟨rfl, rfl, rfl⟩ rfl rfl rfl (tX5_at s_24 s_25 (by decide) hp2018 ?_)
        exact V_iret dX11_of_38 ⟨_, rfl, rfl⟩ rfl rfl ⟨_, _, _, rfl, rfl, k⟩
    · have k := k.2 c2
      refine V_iconst (v := (-1 : Int32)) dX11_of_18 rfl ?_
      exact V_iret dX11_of_19 ⟨_, rfl, rfl⟩ rfl rfl ⟨_, _, _, rfl, rfl, k⟩
def HX12_of_79 (E : aE) (P : Int32 → hI_ → hJ_ → Prop) (v1 : Int32) (v2 : Int32) (v3 : Int32) (v4 : Int32) (v5 : Int32) (I : hI_) (J : hJ_) : Prop := V E mX12_of (kI SH P) 79 [.ref 68, .int v1, .int v2, .int v3, .int v4, .int v5] [] (SH, I, J) (0, 0)
set_option maxHeartbeats 4000000 in
set_option maxRecDepth 20000 in
theorem wX12_of {E : aE} {P : Int32 → hI_ → hJ_ → Prop} {I : hI_} {J : hJ_} {a0 : Int32} {a1 : Int32} (k : ((¬ (0 ≤ a0 ∧ a0 ≤ I 82 281 - 1) → P (-1 : Int32) I J) ∧ ((0 ≤ a0 ∧ a0 ≤ I 82 281 - 1) → ((((0 : Int32) ≤ a1 ∧ a1 ≤ (9 : Int32)) → (((7 : Int32) ≤ a1 → ((¬ a1 = (7 : Int32) → CallV E mX12_layStruck [.ref 68] SH I J (fun I6 J7 => HX12_of_79 E P a0 a1 (0 : Int32) (-4 : Int32) (0 : Int32) I6 J7)) ∧ (a1 = (7 : Int32) → (cOK I a0) ∧ (((nI (endN I a0.toNatClampNeg)) ≤ (999 : Int32)) → cOK I a0) ∧ P (if (nI (endN I a0.toNatClampNeg)) ≤ (999 : Int32) then ((nI (endN I a0.toNatClampNeg)) - (1 : Int32)) else (999 : Int32)) I J))) ∧ (¬ ((7 : Int32) ≤ a1) → (inC a0 a1) ∧ P (its I a0 a1) I J))) ∧ (¬ (((0 : Int32) ≤ a1 ∧ a1 ≤ (9 : Int32))) → P (-1 : Int32) I J))))) : CallI E mX12_of [.ref 68, .int a0, .int a1] SH I J P := by
  refine Call_of (L := [.ref 68, .int a0, .int a1, .retAddr 0, .retAddr 0, .retAddr 0]) ok_X12_of.1 rfl rfl ?_
  refine V_aload_n dX12_of_0 rfl ?_
  refine V_iload_n dX12_of_1 rfl ?_
  refine U_callV1 [.int a0] dX12_of_2 ov_X12_207 s_68 rfl ⟨rfl, rfl, rfl⟩ rfl rfl rfl (tX12_isCall ?_)
  refine U_ifb_eq dX12_of_5 (fun c1 => ?_) (fun c1 => ?_)
  · have k := k.1 c1
    refine V_iconst (v := (-1 : Int32)) dX12_of_20 rfl ?_
    exact V_iret dX12_of_21 ⟨_, rfl, rfl⟩ rfl rfl ⟨_, _, _, rfl, rfl, k⟩
  · have k := k.2 c1
    refine V_iload_n dX12_of_8 rfl ?_
    refine V_i2l dX12_of_9 ?_
    refine V_lconst (v := (0 : Int64)) dX12_of_10 rfl ?_
    refine V_ldc2_w (v := (9 : Int64)) dX12_of_11 (gt_6 90 rfl rfl) ?_
    refine U_callS1 [.long a1.toInt64, .long (0 : Int64), .long (9 : Int64)] dX12_of_14 os_X12_91 ⟨rfl, rfl, rfl⟩ rfl rfl rfl (tX12_in32 (v := a1) (lo := (0 : Int32)) (hi := (9 : Int32)) rfl (by decide) (by decide) ?_)
    refine U_ifb_ne dX12_of_17 (fun c2 => ?_) (fun c2 => ?_)
    · have k := k.1 c2
      refine V_iload_n dX12_of_22 rfl ?_
      refine V_bipush (v := (7 : Int32)) dX12_of_23 rfl ?_
      refine V_icmp_ge dX12_of_25 (fun c3 => ?_) (fun c3 => ?_)
      · have k := k.1 c3
        refine V_iload_n dX12_of_35 rfl ?_
        refine V_bipush (v := (7 : Int32)) dX12_of_36 rfl ?_
        refine V_icmp_ne dX12_of_38 (fun c4 => ?_) (fun c4 => ?_)
        · have k := k.1 c4
          refine V_aload_n dX12_of_66 rfl ?_
          refine U_callV0 [] dX12_of_67 ov_X12_218 s_68 rfl ⟨rfl, rfl, rfl⟩ rfl rfl rfl (CallV_mono k (fun I6 J7 k => ?_))
          refine V_iconst (v := (0 : Int32)) dX12_of_70 rfl ?_
          refine U_istore_n (L2 := [.ref 68, .int a0, .int a1, .int (0 : Int32), .retAddr 0, .retAddr 0]) dX12_of_71 (by decide) rfl ?_
          refine V_bipush (v := (-4 : Int32)) dX12_of_72 rfl ?_
          refine U_istore (L2 := [.ref 68, .int a0, .int a1, .int (0 : Int32), .int (-4 : Int32), .retAddr 0]) dX12_of_74 (by decide) rfl ?_
          refine V_iconst (v := (0 : Int32)) dX12_of_76 rfl ?_
          refine U_istore (L2 := [.ref 68, .int a0, .int a1, .int (0 : Int32), .int (-4 : Int32), .int (0 : Int32)]) dX12_of_77 (by decide) rfl ?_
          exact k
        · have k := k.2 c4
          refine V_aload_n dX12_of_41 rfl ?_
          refine V_iload_n dX12_of_42 rfl ?_
          obtain ⟨hp8, k⟩ := k
          refine U_callV1 [.int a0] dX12_of_43 ov_X12_213 s_68 rfl ⟨rfl, rfl, rfl⟩ rfl rfl rfl (tX12_ends hp8 ?_)
          refine V_sipush (v := (999 : Int32)) dX12_of_46 rfl ?_
          obtain ⟨hc2012, k⟩ := k
          have key9 : ∀ (y2011 : Int32), y2011 = (if (nI (endN I a0.toNatClampNeg)) ≤ (999 : Int32) then ((nI (endN I a0.toNatClampNeg)) - (1 : Int32)) else (999 : Int32)) → V E mX12_of (kI SH P) 65 [.ref 68, .int a0, .int a1, .retAddr 0, .retAddr 0, .retAddr 0] [.int y2011] (SH, I, J) (0, 0) := by
            intro y2011 ey2011
            subst ey2011
            exact V_iret dX12_of_65 ⟨_, rfl, rfl⟩ rfl rfl ⟨_, _, _, rfl, rfl, k⟩
          refine V_icmp_le dX12_of_49 (fun c2013 => ?_) (fun c2013 => ?_)
          · refine V_aload_n dX12_of_58 rfl ?_
            refine V_iload_n dX12_of_59 rfl ?_
            have hp1010 := hc2012 c2013
            refine U_callV1 [.int a0] dX12_of_60 ov_X12_213 s_68 rfl ⟨rfl, rfl, rfl⟩ rfl rfl rfl (tX12_ends hp1010 ?_)
            refine V_iconst (v := (1 : Int32)) dX12_of_63 rfl ?_
            refine V_isub dX12_of_64 ?_
            exact key9 _ (by rw [if_pos c2013])
          · refine V_sipush (v := (999 : Int32)) dX12_of_52 rfl ?_
            refine V_goto dX12_of_55 ?_
            exact key9 _ (by rw [if_neg c2013])
      · have k := k.2 c3
        refine V_aload_n dX12_of_28 rfl ?_
        refine V_iload_n dX12_of_29 rfl ?_
        refine V_iload_n dX12_of_30 rfl ?_
        obtain ⟨hp2014, k⟩ := k
        refine U_callV1 [.int a0, .int a1] dX12_of_31 ov_X12_202 s_68 rfl ⟨rfl, rfl, rfl⟩ rfl rfl rfl (tX12_its hp2014 ?_)
        exact V_iret dX12_of_34 ⟨_, rfl, rfl⟩ rfl rfl ⟨_, _, _, rfl, rfl, k⟩
    · have k := k.2 c2
      refine V_iconst (v := (-1 : Int32)) dX12_of_20 rfl ?_
      exact V_iret dX12_of_21 ⟨_, rfl, rfl⟩ rfl rfl ⟨_, _, _, rfl, rfl, k⟩
set_option maxHeartbeats 4000000 in
set_option maxRecDepth 20000 in
theorem wX12_of_79 {E : aE} {P : Int32 → hI_ → hJ_ → Prop} {I : hI_} {J : hJ_} {v1 : Int32} {v2 : Int32} {v3 : Int32} {v4 : Int32} {v5 : Int32} (k : (((I 82 282) ≤ v5 → ((¬ v2 = (8 : Int32)) → inC v1 (4 : Int32)) ∧ P (if ¬ v2 = (8 : Int32) then (if ¬ v3 = (its I v1 (4 : Int32)) then (-4 : Int32) else v4) else v3) I J) ∧ (¬ ((I 82 282) ≤ v5) → (inD v5 (1 : Int32)) ∧ (((snt I v5 (1 : Int32)) = v1) → vp_in v5 24) ∧ (((snt I v5 (1 : Int32)) = v1) → (¬ ((I 84 v5.toNatClampNeg) ≤ (0 : Int32))) → vp_in v5 24) ∧ (((snt I v5 (1 : Int32)) = v1) → (¬ ((I 84 v5.toNatClampNeg) ≤ (0 : Int32))) → vp_in v5 24) ∧ (((snt I v5 (1 : Int32)) = v1) → (¬ ((I 84 v5.toNatClampNeg) ≤ (0 : Int32))) → (¬ ((I 83 v5.toNatClampNeg) ≤ v4)) → vp_in v5 24) ∧ HX12_of_79 E P v1 v2 (if ¬ (snt I v5 (1 : Int32)) = v1 then v3 else (if (I 84 v5.toNatClampNeg) ≤ (0 : Int32) then v3 else (v3 + (I 84 v5.toNatClampNeg)))) (if ¬ (snt I v5 (1 : Int32)) = v1 then v4 else (if (I 84 v5.toNatClampNeg) ≤ (0 : Int32) then v4 else (if (I 83 v5.toNatClampNeg) ≤ v4 then v4 else (I 83 v5.toNatClampNeg)))) (v5 + (1 : Int32)) I J))) : HX12_of_79 E P v1 v2 v3 v4 v5 I J := by
  show V E mX12_of (kI SH P) 79 [.ref 68, .int v1, .int v2, .int v3, .int v4, .int v5] [] (SH, I, J) (0, 0)
  refine V_iload dX12_of_79 rfl ?_
  refine V_aload_n dX12_of_81 rfl ?_
  refine U_callV1 [] dX12_of_82 ov_X12_221 s_68 rfl ⟨rfl, rfl, rfl⟩ rfl rfl rfl (tX12_deals ?_)
  refine V_icmp_ge dX12_of_85 (fun c1 => ?_) (fun c1 => ?_)
  · have k := k.1 c1
    refine V_iload_n dX12_of_151 rfl ?_
    refine V_bipush (v := (8 : Int32)) dX12_of_152 rfl ?_
    obtain ⟨hc2005, k⟩ := k
    have key2 : ∀ (y2004 : Int32), y2004 = (if ¬ v2 = (8 : Int32) then (if ¬ v3 = (its I v1 (4 : Int32)) then (-4 : Int32) else v4) else v3) → V E mX12_of (kI SH P) 178 [.ref 68, .int v1, .int v2, .int v3, .int v4, .int v5] [.int y2004] (SH, I, J) (0, 0) := by
      intro y2004 ey2004
      subst ey2004
      exact V_iret dX12_of_178 ⟨_, rfl, rfl⟩ rfl rfl ⟨_, _, _, rfl, rfl, k⟩
    refine V_icmp_ne dX12_of_154 (fun c2006 => ?_) (fun c2006 => ?_)
    · refine V_iload_n dX12_of_161 rfl ?_
      refine V_aload_n dX12_of_162 rfl ?_
      refine V_iload_n dX12_of_163 rfl ?_
      refine V_iconst (v := (4 : Int32)) dX12_of_164 rfl ?_
      have hp1003 := hc2005 c2006
      refine U_callV1 [.int v1, .int (4 : Int32)] dX12_of_165 ov_X12_202 s_68 rfl ⟨rfl, rfl, rfl⟩ rfl rfl rfl (tX12_its hp1003 ?_)
      refine V_icmp_ne dX12_of_168 (fun c2007 => ?_) (fun c2007 => ?_)
      · refine V_bipush (v := (-4 : Int32)) dX12_of_176 rfl ?_
        exact key2 _ (by rw [if_pos c2006, if_pos c2007])
      · refine V_iload dX12_of_171 rfl ?_
        refine V_goto dX12_of_173 ?_
        exact key2 _ (by rw [if_pos c2006, if_neg (not_not_intro c2007)])
    · refine V_iload_n dX12_of_157 rfl ?_
      refine V_goto dX12_of_158 ?_
      exact key2 _ (by rw [if_neg (not_not_intro c2006)])
  · have k := k.2 c1
    refine V_aload_n dX12_of_88 rfl ?_
    refine V_iload dX12_of_89 rfl ?_
    refine V_iconst (v := (1 : Int32)) dX12_of_91 rfl ?_
    obtain ⟨hp2008, k⟩ := k
    refine U_callV1 [.int v5, .int (1 : Int32)] dX12_of_92 ov_X12_224 s_68 rfl ⟨rfl, rfl, rfl⟩ rfl rfl rfl (tX12_sent4 hp2008 ?_)
    refine V_iload_n dX12_of_95 rfl ?_
    obtain ⟨hc4016, hc4017, hc4018, hc4019, k⟩ := k
    have key2009 : ∀ (y4014 : Int32) (y4015 : Int32), y4014 = (if ¬ (snt I v5 (1 : Int32)) = v1 then v3 else (if (I 84 v5.toNatClampNeg) ≤ (0 : Int32) then v3 else (v3 + (I 84 v5.toNatClampNeg)))) → y4015 = (if ¬ (snt I v5 (1 : Int32)) = v1 then v4 else (if (I 84 v5.toNatClampNeg) ≤ (0 : Int32) then v4 else (if (I 83 v5.toNatClampNeg) ≤ v4 then v4 else (I 83 v5.toNatClampNeg)))) → V E mX12_of (kI SH P) 145 [.ref 68, .int v1, .int v2, .int y4014, .int y4015, .int v5] [] (SH, I, J) (0, 0) := by
      intro y4014 y4015 ey4014 ey4015
      subst ey4014
      subst ey4015
      refine U_iinc (v := v5 + (1 : Int32)) (L2 := [.ref 68, .int v1, .int v2, .int (if ¬ (snt I v5 (1 : Int32)) = v1 then v3 else (if (I 84 v5.toNatClampNeg) ≤ (0 : Int32) then v3 else (v3 + (I 84 v5.toNatClampNeg)))), .int (if ¬ (snt I v5 (1 : Int32)) = v1 then v4 else (if (I 84 v5.toNatClampNeg) ≤ (0 : Int32) then v4 else (if (I 83 v5.toNatClampNeg) ≤ v4 then v4 else (I 83 v5.toNatClampNeg)))), .int (v5 + (1 : Int32))]) dX12_of_145 (by decide) rfl rfl rfl ?_
      refine V_goto dX12_of_148 ?_
      exact k
    refine V_icmp_ne dX12_of_96 (fun c4020 => ?_) (fun c4020 => ?_)
    · exact key2009 _ _ (by rw [if_pos c4020]) (by rw [if_pos c4020])
    · refine V_aload_n dX12_of_99 rfl ?_
      refine U_getR dX12_of_100 fl_X12_55 s_68 rfl ?_
      refine V_iload dX12_of_103 rfl ?_
      have hb4010 := hc4016 c4020
      refine U_iald dX12_of_105 s_84 hb4010 ?_
      refine V_if_le dX12_of_106 (fun c4021 => ?_) (fun c4021 => ?_)
      · exact key2009 _ _ (by rw [if_neg (not_not_intro c4020), if_pos c4021]) (by rw [if_neg (not_not_intro c4020), if_pos c4021])
      · refine V_iload_n dX12_of_109 rfl ?_
        refine V_aload_n dX12_of_110 rfl ?_
        refine U_getR dX12_of_111 fl_X12_55 s_68 rfl ?_
        refine V_iload dX12_of_114 rfl ?_
        have hb4011 := hc4017 c4020 c4021
        refine U_iald dX12_of_116 s_84 hb4011 ?_
        refine V_iadd dX12_of_117 ?_
        refine U_istore_n (L2 := [.ref 68, .int v1, .int v2, .int (v3 + (I 84 v5.toNatClampNeg)), .int v4, .int v5]) dX12_of_118 (by decide) rfl ?_
        refine V_aload_n dX12_of_119 rfl ?_
        refine U_getR dX12_of_120 fl_X12_52 s_68 rfl ?_
        refine V_iload dX12_of_123 rfl ?_
        have hb4012 := hc4018 c4020 c4021
        refine U_iald dX12_of_125 s_83 hb4012 ?_
        refine V_iload dX12_of_126 rfl ?_
        refine V_icmp_le dX12_of_128 (fun c4022 => ?_) (fun c4022 => ?_)
        · refine V_iload dX12_of_141 rfl ?_
          refine U_istore (L2 := [.ref 68, .int v1, .int v2, .int (v3 + (I 84 v5.toNatClampNeg)), .int v4, .int v5]) dX12_of_143 (by decide) rfl ?_
          exact key2009 _ _ (by rw [if_neg (not_not_intro c4020), if_neg c4021]) (by rw [if_neg (not_not_intro c4020), if_neg c4021, if_pos c4022])
        · refine V_aload_n dX12_of_131 rfl ?_
          refine U_getR dX12_of_132 fl_X12_52 s_68 rfl ?_
          refine V_iload dX12_of_135 rfl ?_
          have hb4013 := hc4019 c4020 c4021 c4022
          refine U_iald dX12_of_137 s_83 hb4013 ?_
          refine V_goto dX12_of_138 ?_
          refine U_istore (L2 := [.ref 68, .int v1, .int v2, .int (v3 + (I 84 v5.toNatClampNeg)), .int (I 83 v5.toNatClampNeg), .int v5]) dX12_of_143 (by decide) rfl ?_
          exact key2009 _ _ (by rw [if_neg (not_not_intro c4020), if_neg c4021]) (by rw [if_neg (not_not_intro c4020), if_neg c4021, if_neg c4022])
theorem ofM_loop {E : aE} {P : Int32 → hI_ → hJ_ → Prop} {I0 I : hI_} {J : hJ_} {c : Nat} {w : Int32} (h : Rel I0) (hc : c < nC I0) (hs : SM I0 I (fun _ => true)) (ht : tot I0 c (fun _ => true) ≤ unN I0 c) (k : P (if ¬ w = 8 then (if tot I0 c (fun _ => true) = unN I0 c then en0 (mxA I0 c (fun _ => true) (nD I0)) else -4) else nI (tot I0 c (fun _ => true))) I J) : ∀ (m n : Nat), n + m = nD I0 → HX12_of_79 E P (nI c) w (nI (sm (fun e => if cD I0 e = c ∧ (fun _ => true) e = true then tk I0 e else 0) n)) (en0 (mxA I0 c (fun _ => true) n)) (nI n) I J
  | 0, n, hn => by
    have hD := Rel_D h
    have hC := Rel_C h
    have un := un_ok h hc
    have e : n = nD I0 := by omega
    subst e
    have e4 : its I (nI c) 4 = nI (unN I0 c) := by
      refine (its_cK (I := I) (c := c) (j := 4) (by omega) (by omega)).trans ?_
      rw [← un.1]; exact cK_M hs.1 c 4
    refine wX12_of_79 ?_
    rw [hs.1.1 82 rfl, hD.2.1, e4]
    refine ⟨fun _ => ⟨fun _ => inC_nI (j := 4) (by omega) (by omega), ?_⟩, fun z => absurd (nI_le (Nat.le_refl _) (by omega)) z⟩
    have et : sm (fun e => if cD I0 e = c ∧ (fun _ => true) e = true then tk I0 e else 0) (nD I0) = tot I0 c (fun _ => true) := rfl
    rw [et]
    have ee := nI_eqI (a := tot I0 c (fun _ => true)) (b := unN I0 c) (by omega) (by omega)
    by_cases y : tot I0 c (fun _ => true) = unN I0 c
    · rw [if_neg (show ¬ ¬ nI (tot I0 c (fun _ => true)) = nI (unN I0 c) from fun v => v (ee.mpr y))]
      rw [if_pos y] at k; exact k
    · rw [if_pos (show ¬ nI (tot I0 c (fun _ => true)) = nI (unN I0 c) from fun v => y (ee.mp v))]
      rw [if_neg y] at k; exact k
  | m + 1, n, hn => by
    have hD := Rel_D h
    have hC := Rel_C h
    have hnn : n < nD I0 := by omega
    have ok := deal_ok h hnn
    have tl := tk_le h hnn
    have vn : vp_in (nI n) 24 := vp_in_nI (by omega) (by omega)
    have rc := ofM_loop (E := E) h hc hs ht k m (n + 1) (by omega)
    have e1 : sm (fun e => if cD I0 e = c ∧ (fun _ => true) e = true then tk I0 e else 0) (n + 1) = sm (fun e => if cD I0 e = c ∧ (fun _ => true) e = true then tk I0 e else 0) n + (if cD I0 n = c ∧ true = true then tk I0 n else 0) := rfl
    rw [e1, mxA_s] at rc
    refine wX12_of_79 ?_
    rw [hs.1.1 82 rfl, hD.2.1, (snt_M h hs.1 hnn).2.1, nI_clamp (by omega), (hs.2.1 n hnn).1, hs.2.2 n hnn rfl, nI_1 n]
    refine ⟨fun z => absurd z (nI_ge (by omega) (by omega)), fun _ => ⟨inD_nI (j := 1) (by omega) (by omega), fun _ => vn, fun _ _ => vn, fun _ _ => vn, fun _ _ _ => vn, ?_⟩⟩
    have ec := nI_eqI (a := cD I0 n) (b := c) (by omega) (by omega)
    have e0 : (nI (tk I0 n) ≤ 0) ↔ tk I0 n ≤ 0 := nI_leJ (b := 0) (by omega) (by omega)
    by_cases z : cD I0 n = c
    · rw [if_neg (show ¬ ¬ nI (cD I0 n) = nI c from fun v => v (ec.mpr z)), if_neg (show ¬ ¬ nI (cD I0 n) = nI c from fun v => v (ec.mpr z))]
      by_cases y : tk I0 n ≤ 0
      · rw [if_pos (e0.mpr y), if_pos (e0.mpr y)]
        rw [if_pos ⟨z, rfl⟩, if_neg (fun v => by omega), Nat.max_zero, show tk I0 n = 0 by omega, Nat.add_zero] at rc
        exact rc
      · rw [if_neg (fun v => y (e0.mp v)), if_neg (fun v => y (e0.mp v)), nI_add]
        rw [if_pos ⟨z, rfl⟩, if_pos ⟨z, rfl, by omega⟩] at rc
        have ml : mxA I0 c (fun _ => true) n ≤ 1496 := mxA_le n (fun e he _ _ _ => by have := deal_ok h (d := e) (by omega); omega)
        have ev : (if nI (aD I0 n) ≤ en0 (mxA I0 c (fun _ => true) n) then en0 (mxA I0 c (fun _ => true) n) else nI (aD I0 n)) = en0 (max (mxA I0 c (fun _ => true) n) (aD I0 n + 1)) := by
          unfold en0
          by_cases q : mxA I0 c (fun _ => true) n = 0
          · rw [if_pos q, q, if_neg (show ¬ max 0 (aD I0 n + 1) = 0 by omega), Nat.zero_max, if_neg]
            · rfl
            · exact fun v => absurd (Int32.le_trans (nI_pos' (n := aD I0 n) (by omega)) v) (by decide)
          · rw [if_neg q, if_neg (show ¬ max (mxA I0 c (fun _ => true) n) (aD I0 n + 1) = 0 by omega)]
            by_cases v : aD I0 n ≤ mxA I0 c (fun _ => true) n - 1
            · rw [if_pos (nI_le v (by omega)), Nat.max_eq_left (by omega)]
            · rw [if_neg (nI_ge (by omega) (by omega)), Nat.max_eq_right (by omega)]; rfl
        rw [ev]; exact rc
    · rw [if_pos (fun v => z (ec.mp v)), if_pos (fun v => z (ec.mp v))]
      rw [if_neg (fun v => z v.1), if_neg (fun v => z v.1), Nat.max_zero, Nat.add_zero] at rc
      exact rc
theorem op_of {E : aE} {I : hI_} {J : hJ_} {P : hI_ → hJ_ → Prop} {a0 a1 : Int32} (h : Rel I) (hP : ∀ I2 J2, Rel I2 → P I2 J2) : Op2 E mX11_of mX12_of [.int a0, .int a1] I J P := by
  have hC := Rel_C h
  have ec := Rel_nc h
  have hr := (Rel_rows h).2.1
  have kI := hP I J h
  refine wX11_of ⟨fun c1 => wX12_of ⟨fun _ => ⟨rfl, kI⟩, fun d => absurd (by rw [ec]; exact d) c1⟩, fun c1 => ⟨fun c2 => ?_, fun c2 => wX12_of ⟨fun _ => ⟨rfl, kI⟩, fun _ => ⟨fun d => absurd d c2, fun _ => ⟨rfl, kI⟩⟩⟩⟩⟩
  rw [ec] at c1
  have c1' := c1
  rw [hC.2.1] at c1'
  obtain ⟨x, hx, rfl⟩ := in_lt (by omega) c1'
  obtain ⟨j, hj, rfl⟩ := in_le (n := 9) rfl c2
  have un := un_ok h hx
  have vx : vp_in (nI x) 12 := vp_in_nI (by omega) (by omega)
  have j7 : ((7 : Int32) ≤ nI j) ↔ 7 ≤ j := nI_leJ (a := 7) (by omega) (by omega)
  have jn7 : (nI j = 7) ↔ j = 7 := nI_eqI (b := 7) (by omega) (by omega)
  refine ⟨fun c3 => ⟨fun c4 => ?_, fun c4 => ⟨⟨h, x, hx, rfl⟩, ?_⟩⟩, fun c3 => ⟨hr, ?_⟩⟩
  · refine tX7_settle h (fun I2 hs => ⟨fun _ => vx, fun _ => (Rel_rows (Rel_agX hs.1 h)).2.1, fun _ => vx, ?_⟩)
    have hR := Rel_agX hs.1 h
    obtain ⟨s33, stt, s34, s35⟩ := hs.2.1 x hx
    have e4 : rat I2 24 25 (nI x) 4 = nI (unN I x) := by
      refine (((Rel_call hR (by rw [nC_X hs.1]; exact hx)).1 4 (by omega)).1).trans ?_
      rw [← un.1]; exact cK_X hs.1 x 4
    rw [nI_clamp (by omega), s33, s35, e4, nI_sub (by omega), show unN I x - (unN I x - tot I x (fun _ => true)) = tot I x (fun _ => true) by omega]
    refine wX12_of ⟨fun d => absurd (by rw [hs.1 82 rfl]; exact c1) d, fun _ => ⟨fun _ => ⟨fun _ => ⟨fun _ => ?_, fun d => absurd d c4⟩, fun d => absurd c3 d⟩, fun d => absurd c2 d⟩⟩
    refine tX12_layStruck hR (fun I3 hm => ?_)
    have := ofM_loop (E := E) (P := fun r2 I3 J3 => (if ¬ nI j = 8 then (if tot I x (fun _ => true) = unN I x then en0 (mxA I x (fun _ => true) (nD I)) else -4) else nI (tot I x (fun _ => true))) = r2 ∧ P I3 J3) (I := I3) (J := J) (w := nI j) hR (c := x) (by rw [nC_X hs.1]; exact hx) hm (by rw [tot_X hs.1, unN_X hs.1]; exact stt) ⟨by rw [tot_X hs.1, unN_X hs.1, mxA_X hs.1, nD_X hs.1], hP I3 J (Rel_agM hm.1 hR)⟩ (nD I2) 0 (by omega)
    exact this
  · have el := endN_le h hx
    refine wX12_of ⟨fun d => absurd c1 d, fun _ => ⟨fun _ => ⟨fun _ => ⟨fun d => absurd c4 d, fun _ => ⟨⟨h, x, hx, rfl⟩, fun _ => ⟨h, x, hx, rfl⟩, ?_, kI⟩⟩, fun d => absurd c3 d⟩, fun d => absurd c2 d⟩⟩
    rw [nI_clamp (by omega)]
    unfold lu
    by_cases z : endN I x ≤ 999
    · rw [if_pos (show nI (endN I x) ≤ (999 : Int32) from nI_le (b := 999) z (by omega)), Nat.min_eq_left (by omega)]
    · rw [if_neg (show ¬ nI (endN I x) ≤ (999 : Int32) from nI_ge (a := 999) (by omega) (by omega)), Nat.min_eq_right (by omega)]; rfl
  · have j6 : j < 7 := by
      rcases Nat.lt_or_ge j 7 with y | y
      · exact y
      · exact absurd (j7.mpr y) c3
    refine wX12_of ⟨fun d => absurd c1 d, fun _ => ⟨fun _ => ⟨fun d => absurd d c3, fun _ => ⟨inC_nI (by omega) (by omega), ?_, kI⟩⟩, fun d => absurd c2 d⟩⟩
    rw [its_cK (by omega) (by omega)]
    exact ((Rel_call h hx).1 j j6).1
set_option maxHeartbeats 4000000 in
set_option maxRecDepth 20000 in
theorem wX7_newsOf {E : aE} {P : Int32 → hI_ → hJ_ → Prop} {I : hI_} {J : hJ_} {a0 : Int32} {a1 : Int32} (k : (rok I 26 5 24) ∧ (rok I 24 8 12) ∧ (rok I 26 5 24) ∧ CallI E mX2_arrival [.ref 18, .int (rat I 24 25 (rat I 26 27 a0 (1 : Int32)) (0 : Int32)), .int a1, .int (rat I 26 27 a0 (4 : Int32))] SH I J (fun x4 I5 J6 => P x4 I5 J6)) : CallI E mX7_newsOf [.ref 29, .int a0, .int a1] SH I J P := by
  refine Call_of (L := [.ref 29, .int a0, .int a1, .retAddr 0]) ok_X7_newsOf.1 rfl rfl ?_
  refine V_aload_n dX7_newsOf_0 rfl ?_
  refine U_getR dX7_newsOf_1 fl_X7_52 s_29 rfl ?_
  refine V_iload_n dX7_newsOf_4 rfl ?_
  refine V_iconst (v := (1 : Int32)) dX7_newsOf_5 rfl ?_
  obtain ⟨hp1, k⟩ := k
  refine U_callV1 [.int a0, .int (1 : Int32)] dX7_newsOf_6 ov_X7_59 s_26 rfl ⟨rfl, rfl, rfl⟩ rfl rfl rfl (tX5_at s_26 s_27 (by decide) hp1 ?_)
  refine U_istore_n (L2 := [.ref 29, .int a0, .int a1, .int (rat I 26 27 a0 (1 : Int32))]) dX7_newsOf_9 (by decide) rfl ?_
  refine V_aload_n dX7_newsOf_10 rfl ?_
  refine U_getR dX7_newsOf_11 fl_X7_34 s_29 rfl ?_
  refine V_aload_n dX7_newsOf_14 rfl ?_
  refine U_getR dX7_newsOf_15 fl_X7_48 s_29 rfl ?_
  refine V_iload_n dX7_newsOf_18 rfl ?_
  refine V_iconst (v := (0 : Int32)) dX7_newsOf_19 rfl ?_
  obtain ⟨hp2, k⟩ := k
  refine U_callV1 [.int (rat I 26 27 a0 (1 : Int32)), .int (0 : Int32)] dX7_newsOf_20 ov_X7_59 s_24 rfl ⟨rfl, rfl, rfl⟩ rfl rfl rfl (tX5_at s_24 s_25 (by decide) hp2 ?_)
  refine V_iload_n dX7_newsOf_23 rfl ?_
  refine V_aload_n dX7_newsOf_24 rfl ?_
  refine U_getR dX7_newsOf_25 fl_X7_52 s_29 rfl ?_
  refine V_iload_n dX7_newsOf_28 rfl ?_
  refine V_iconst (v := (4 : Int32)) dX7_newsOf_29 rfl ?_
  obtain ⟨hp3, k⟩ := k
  refine U_callV1 [.int a0, .int (4 : Int32)] dX7_newsOf_30 ov_X7_59 s_26 rfl ⟨rfl, rfl, rfl⟩ rfl rfl rfl (tX5_at s_26 s_27 (by decide) hp3 ?_)
  refine U_callV1 [.int (rat I 24 25 (rat I 26 27 a0 (1 : Int32)) (0 : Int32)), .int a1, .int (rat I 26 27 a0 (4 : Int32))] dX7_newsOf_33 ov_X7_91 s_18 rfl ⟨rfl, rfl, rfl⟩ rfl rfl rfl (CallI_mono k (fun x4 I5 J6 k => ?_))
  exact V_iret dX7_newsOf_36 ⟨_, rfl, rfl⟩ rfl rfl ⟨_, _, _, rfl, rfl, k⟩
theorem tX7_newsOf {E : aE} {P : Int32 → hI_ → hJ_ → Prop} {I : hI_} {J : hJ_} {d p : Nat} (h : Rel I) (hd : d < nD I) (hp : p < nP I) (k : ∀ I2, ag1 19 I I2 → P (nI (arr (wI I) (qN I (cD I d)) (aD I d) p)) I2 J) : CallI E mX7_newsOf [.ref 29, .int (nI d), .int (nI p)] SH I J P := by
  have hr := Rel_rows h
  have ok := deal_ok h hd
  obtain ⟨d0, d1, d2, d3, d4⟩ := deal_at h hd
  have hq := cK_q h ok.2.1.2
  refine wX7_newsOf ⟨hr.2.2, hr.2.1, hr.2.2, ?_⟩
  have e0 : rat I 24 25 (nI (cD I d)) 0 = nI (qN I (cD I d)) := (((Rel_call h ok.2.1.2).1 0 (by omega)).1).trans hq.1
  rw [d1, d4, e0]
  exact tX2_arrival h hq.2 hp (by omega) k
set_option maxHeartbeats 4000000 in
set_option maxRecDepth 20000 in
theorem wX11_sent {E : aE} {P : Int32 → hI_ → hJ_ → Prop} {I : hI_} {J : hJ_} {a0 : Int32} {a1 : Int32} (k : ((¬ (0 ≤ a0 ∧ a0 ≤ I 26 3 - 1) → P (-1 : Int32) I J) ∧ ((0 ≤ a0 ∧ a0 ≤ I 26 3 - 1) → ((((0 : Int32) ≤ a1 ∧ a1 ≤ (6 : Int32)) → (((4 : Int32) ≤ a1 → ((¬ a1 = (5 : Int32) → (rok I 26 5 24) ∧ ((¬ a1 = (4 : Int32) → (rok I 26 5 24) ∧ CallI E mX7_newsOf [.ref 29, .int a0, .int (rat I 26 27 a0 (0 : Int32))] SH I J (fun x8 I9 J10 => P (orN x8) I9 J10)) ∧ (a1 = (4 : Int32) → P (orN (rat I 26 27 a0 (4 : Int32))) I J))) ∧ (a1 = (5 : Int32) → CallV E mX7_settle [.ref 29] SH I J (fun I12 J13 => (vp_in a0 24) ∧ P (I12 31 a0.toNatClampNeg) I12 J13)))) ∧ (¬ ((4 : Int32) ≤ a1) → (rok I 26 5 24) ∧ P (rat I 26 27 a0 a1) I J))) ∧ (¬ (((0 : Int32) ≤ a1 ∧ a1 ≤ (6 : Int32))) → P (-1 : Int32) I J))))) : CallI E mX11_sent [.ref 0, .int a0, .int a1] SH I J P := by
  refine Call_of (L := [.ref 0, .int a0, .int a1, .retAddr 0]) ok_X11_sent.1 rfl rfl ?_
  refine V_aload_n dX11_sent_0 rfl ?_
  refine V_iload_n dX11_sent_1 rfl ?_
  refine U_callV1 [.int a0] dX11_sent_2 ov_X11_231 s_0 rfl ⟨rfl, rfl, rfl⟩ rfl rfl rfl (tX11_isDeal ?_)
  refine U_ifb_eq dX11_sent_5 (fun c1 => ?_) (fun c1 => ?_)
  · have k := k.1 c1
    refine V_iconst (v := (-1 : Int32)) dX11_sent_18 rfl ?_
    exact V_iret dX11_sent_19 ⟨_, rfl, rfl⟩ rfl rfl ⟨_, _, _, rfl, rfl, k⟩
  · have k := k.2 c1
    refine V_iload_n dX11_sent_8 rfl ?_
    refine V_iconst (v := (0 : Int32)) dX11_sent_9 rfl ?_
    refine V_bipush (v := (6 : Int32)) dX11_sent_10 rfl ?_
    refine U_callS1 [.int a1, .int (0 : Int32), .int (6 : Int32)] dX11_sent_12 os_X11_104 ⟨rfl, rfl, rfl⟩ rfl rfl rfl (tX11_within ?_)
    refine U_ifb_ne dX11_sent_15 (fun c2 => ?_) (fun c2 => ?_)
    · have k := k.1 c2
      refine V_iload_n dX11_sent_20 rfl ?_
      refine V_iconst (v := (4 : Int32)) dX11_sent_21 rfl ?_
      refine V_icmp_ge dX11_sent_22 (fun c3 => ?_) (fun c3 => ?_)
      · have k := k.1 c3
        refine V_iload_n dX11_sent_38 rfl ?_
        refine V_iconst (v := (5 : Int32)) dX11_sent_39 rfl ?_
        refine V_icmp_ne dX11_sent_40 (fun c4 => ?_) (fun c4 => ?_)
        · have k := k.1 c4
          refine V_aload_n dX11_sent_60 rfl ?_
          refine U_getR dX11_sent_61 fl_X11_47 s_0 rfl ?_
          refine U_getR dX11_sent_64 fl_X11_228 s_21 rfl ?_
          refine V_iload_n dX11_sent_67 rfl ?_
          refine V_iconst (v := (4 : Int32)) dX11_sent_68 rfl ?_
          obtain ⟨hp5, k⟩ := k
          refine U_callV1 [.int a0, .int (4 : Int32)] dX11_sent_69 ov_X11_209 s_26 rfl ⟨rfl, rfl, rfl⟩ rfl rfl rfl (tX5_at s_26 s_27 (by decide) hp5 ?_)
          refine U_istore_n (L2 := [.ref 0, .int a0, .int a1, .int (rat I 26 27 a0 (4 : Int32))]) dX11_sent_72 (by decide) rfl ?_
          refine V_iload_n dX11_sent_73 rfl ?_
          refine V_iconst (v := (4 : Int32)) dX11_sent_74 rfl ?_
          refine V_icmp_ne dX11_sent_75 (fun c6 => ?_) (fun c6 => ?_)
          · have k := k.1 c6
            refine V_aload_n dX11_sent_82 rfl ?_
            refine U_getR dX11_sent_83 fl_X11_60 s_0 rfl ?_
            refine V_iload_n dX11_sent_86 rfl ?_
            refine V_aload_n dX11_sent_87 rfl ?_
            refine U_getR dX11_sent_88 fl_X11_47 s_0 rfl ?_
            refine U_getR dX11_sent_91 fl_X11_228 s_21 rfl ?_
            refine V_iload_n dX11_sent_94 rfl ?_
            refine V_iconst (v := (0 : Int32)) dX11_sent_95 rfl ?_
            obtain ⟨hp7, k⟩ := k
            refine U_callV1 [.int a0, .int (0 : Int32)] dX11_sent_96 ov_X11_209 s_26 rfl ⟨rfl, rfl, rfl⟩ rfl rfl rfl (tX5_at s_26 s_27 (by decide) hp7 ?_)
            refine U_callV1 [.int a0, .int (rat I 26 27 a0 (0 : Int32))] dX11_sent_99 ov_X11_237 s_29 rfl ⟨rfl, rfl, rfl⟩ rfl rfl rfl (CallI_mono k (fun x8 I9 J10 k => ?_))
            refine U_callS1 [.int x8] dX11_sent_102 os_X11_166 ⟨rfl, rfl, rfl⟩ rfl rfl rfl (tX11_orNone ?_)
            exact V_iret dX11_sent_105 ⟨_, rfl, rfl⟩ rfl rfl ⟨_, _, _, rfl, rfl, k⟩
          · have k := k.2 c6
            refine V_iload_n dX11_sent_78 rfl ?_
            refine V_goto dX11_sent_79 ?_
            refine U_callS1 [.int (rat I 26 27 a0 (4 : Int32))] dX11_sent_102 os_X11_166 ⟨rfl, rfl, rfl⟩ rfl rfl rfl (tX11_orNone ?_)
            exact V_iret dX11_sent_105 ⟨_, rfl, rfl⟩ rfl rfl ⟨_, _, _, rfl, rfl, k⟩
        · have k := k.2 c4
          refine V_aload_n dX11_sent_43 rfl ?_
          refine U_getR dX11_sent_44 fl_X11_60 s_0 rfl ?_
          refine U_callV0 [] dX11_sent_47 ov_X11_215 s_29 rfl ⟨rfl, rfl, rfl⟩ rfl rfl rfl (CallV_mono k (fun I12 J13 k => ?_))
          refine V_aload_n dX11_sent_50 rfl ?_
          refine U_getR dX11_sent_51 fl_X11_60 s_0 rfl ?_
          refine U_getR dX11_sent_54 fl_X11_234 s_29 rfl ?_
          refine V_iload_n dX11_sent_57 rfl ?_
          obtain ⟨hb14, k⟩ := k
          refine U_iald dX11_sent_58 s_31 hb14 ?_
          exact V_iret dX11_sent_59 ⟨_, rfl, rfl⟩ rfl rfl ⟨_, _, _, rfl, rfl, k⟩
      · have k := k.2 c3
        refine V_aload_n dX11_sent_25 rfl ?_
        refine U_getR dX11_sent_26 fl_X11_47 s_0 rfl ?_
        refine U_getR dX11_sent_29 fl_X11_228 s_21 rfl ?_
        refine V_iload_n dX11_sent_32 rfl ?_
        refine V_iload_n dX11_sent_33 rfl ?_
        obtain ⟨hp15, k⟩ := k
        refine U_callV1 [.int a0, .int a1] dX11_sent_34 ov_X11_209 s_26 rfl ⟨rfl, rfl, rfl⟩ rfl rfl rfl (tX5_at s_26 s_27 (by decide) hp15 ?_)
        exact V_iret dX11_sent_37 ⟨_, rfl, rfl⟩ rfl rfl ⟨_, _, _, rfl, rfl, k⟩
    · have k := k.2 c2
      refine V_iconst (v := (-1 : Int32)) dX11_sent_18 rfl ?_
      exact V_iret dX11_sent_19 ⟨_, rfl, rfl⟩ rfl rfl ⟨_, _, _, rfl, rfl, k⟩
set_option maxHeartbeats 4000000 in
set_option maxRecDepth 20000 in
theorem wX12_sent {E : aE} {P : Int32 → hI_ → hJ_ → Prop} {I : hI_} {J : hJ_} {a0 : Int32} {a1 : Int32} (k : ((¬ (0 ≤ a0 ∧ a0 ≤ I 82 282 - 1) → P (-1 : Int32) I J) ∧ ((0 ≤ a0 ∧ a0 ≤ I 82 282 - 1) → ((((0 : Int32) ≤ a1 ∧ a1 ≤ (6 : Int32)) → (((4 : Int32) ≤ a1 → CallV E mX12_layStruck [.ref 68] SH I J (fun I5 J6 => ((¬ a1 = (4 : Int32) → ((¬ a1 = (5 : Int32) → (inD a0 (1 : Int32)) ∧ (inC (snt I5 a0 (1 : Int32)) (0 : Int32)) ∧ (inD a0 (0 : Int32)) ∧ (vp_in a0 24) ∧ CallI E mX12_news [.ref 68, .int (its I5 (snt I5 a0 (1 : Int32)) (0 : Int32)), .int (snt I5 a0 (0 : Int32)), .int (I5 83 a0.toNatClampNeg)] SH I5 J6 (fun x13 I14 J15 => P (orN x13) I14 J15)) ∧ (a1 = (5 : Int32) → (vp_in a0 24) ∧ P (I5 84 a0.toNatClampNeg) I5 J6))) ∧ (a1 = (4 : Int32) → (vp_in a0 24) ∧ P (orN (I5 83 a0.toNatClampNeg)) I5 J6)))) ∧ (¬ ((4 : Int32) ≤ a1) → (inD a0 a1) ∧ P (snt I a0 a1) I J))) ∧ (¬ (((0 : Int32) ≤ a1 ∧ a1 ≤ (6 : Int32))) → P (-1 : Int32) I J))))) : CallI E mX12_sent [.ref 68, .int a0, .int a1] SH I J P := by
  refine Call_of (L := [.ref 68, .int a0, .int a1]) ok_X12_sent.1 rfl rfl ?_
  refine V_aload_n dX12_sent_0 rfl ?_
  refine V_iload_n dX12_sent_1 rfl ?_
  refine U_callV1 [.int a0] dX12_sent_2 ov_X12_240 s_68 rfl ⟨rfl, rfl, rfl⟩ rfl rfl rfl (tX12_isDeal ?_)
  refine U_ifb_eq dX12_sent_5 (fun c1 => ?_) (fun c1 => ?_)
  · have k := k.1 c1
    refine V_iconst (v := (-1 : Int32)) dX12_sent_20 rfl ?_
    exact V_iret dX12_sent_21 ⟨_, rfl, rfl⟩ rfl rfl ⟨_, _, _, rfl, rfl, k⟩
  · have k := k.2 c1
    refine V_iload_n dX12_sent_8 rfl ?_
    refine V_i2l dX12_sent_9 ?_
    refine V_lconst (v := (0 : Int64)) dX12_sent_10 rfl ?_
    refine V_ldc2_w (v := (6 : Int64)) dX12_sent_11 (gt_6 143 rfl rfl) ?_
    refine U_callS1 [.long a1.toInt64, .long (0 : Int64), .long (6 : Int64)] dX12_sent_14 os_X12_91 ⟨rfl, rfl, rfl⟩ rfl rfl rfl (tX12_in32 (v := a1) (lo := (0 : Int32)) (hi := (6 : Int32)) rfl (by decide) (by decide) ?_)
    refine U_ifb_ne dX12_sent_17 (fun c2 => ?_) (fun c2 => ?_)
    · have k := k.1 c2
      refine V_iload_n dX12_sent_22 rfl ?_
      refine V_iconst (v := (4 : Int32)) dX12_sent_23 rfl ?_
      refine V_icmp_ge dX12_sent_24 (fun c3 => ?_) (fun c3 => ?_)
      · have k := k.1 c3
        refine V_aload_n dX12_sent_34 rfl ?_
        refine U_callV0 [] dX12_sent_35 ov_X12_218 s_68 rfl ⟨rfl, rfl, rfl⟩ rfl rfl rfl (CallV_mono k (fun I5 J6 k => ?_))
        refine V_iload_n dX12_sent_38 rfl ?_
        refine V_iconst (v := (4 : Int32)) dX12_sent_39 rfl ?_
        refine V_icmp_ne dX12_sent_40 (fun c7 => ?_) (fun c7 => ?_)
        · have k := k.1 c7
          refine V_iload_n dX12_sent_55 rfl ?_
          refine V_iconst (v := (5 : Int32)) dX12_sent_56 rfl ?_
          refine V_icmp_ne dX12_sent_57 (fun c8 => ?_) (fun c8 => ?_)
          · have k := k.1 c8
            refine V_aload_n dX12_sent_69 rfl ?_
            refine V_aload_n dX12_sent_70 rfl ?_
            refine V_aload_n dX12_sent_71 rfl ?_
            refine V_iload_n dX12_sent_72 rfl ?_
            refine V_iconst (v := (1 : Int32)) dX12_sent_73 rfl ?_
            obtain ⟨hp9, k⟩ := k
            refine U_callV1 [.int a0, .int (1 : Int32)] dX12_sent_74 ov_X12_224 s_68 rfl ⟨rfl, rfl, rfl⟩ rfl rfl rfl (tX12_sent4 hp9 ?_)
            refine V_iconst (v := (0 : Int32)) dX12_sent_77 rfl ?_
            obtain ⟨hp10, k⟩ := k
            refine U_callV1 [.int (snt I5 a0 (1 : Int32)), .int (0 : Int32)] dX12_sent_78 ov_X12_202 s_68 rfl ⟨rfl, rfl, rfl⟩ rfl rfl rfl (tX12_its hp10 ?_)
            refine V_aload_n dX12_sent_81 rfl ?_
            refine V_iload_n dX12_sent_82 rfl ?_
            refine V_iconst (v := (0 : Int32)) dX12_sent_83 rfl ?_
            obtain ⟨hp11, k⟩ := k
            refine U_callV1 [.int a0, .int (0 : Int32)] dX12_sent_84 ov_X12_224 s_68 rfl ⟨rfl, rfl, rfl⟩ rfl rfl rfl (tX12_sent4 hp11 ?_)
            refine V_aload_n dX12_sent_87 rfl ?_
            refine U_getR dX12_sent_88 fl_X12_52 s_68 rfl ?_
            refine V_iload_n dX12_sent_91 rfl ?_
            obtain ⟨hb12, k⟩ := k
            refine U_iald dX12_sent_92 s_83 hb12 ?_
            refine U_callV1 [.int (its I5 (snt I5 a0 (1 : Int32)) (0 : Int32)), .int (snt I5 a0 (0 : Int32)), .int (I5 83 a0.toNatClampNeg)] dX12_sent_93 ov_X12_182 s_68 rfl ⟨rfl, rfl, rfl⟩ rfl rfl rfl (CallI_mono k (fun x13 I14 J15 k => ?_))
            refine U_callS1 [.int x13] dX12_sent_96 os_X12_185 ⟨rfl, rfl, rfl⟩ rfl rfl rfl (tX12_orNone ?_)
            exact V_iret dX12_sent_99 ⟨_, rfl, rfl⟩ rfl rfl ⟨_, _, _, rfl, rfl, k⟩
          · have k := k.2 c8
            refine V_aload_n dX12_sent_60 rfl ?_
            refine U_getR dX12_sent_61 fl_X12_55 s_68 rfl ?_
            refine V_iload_n dX12_sent_64 rfl ?_
            obtain ⟨hb16, k⟩ := k
            refine U_iald dX12_sent_65 s_84 hb16 ?_
            refine V_goto dX12_sent_66 ?_
            exact V_iret dX12_sent_99 ⟨_, rfl, rfl⟩ rfl rfl ⟨_, _, _, rfl, rfl, k⟩
        · have k := k.2 c7
          refine V_aload_n dX12_sent_43 rfl ?_
          refine U_getR dX12_sent_44 fl_X12_52 s_68 rfl ?_
          refine V_iload_n dX12_sent_47 rfl ?_
          obtain ⟨hb17, k⟩ := k
          refine U_iald dX12_sent_48 s_83 hb17 ?_
          refine U_callS1 [.int (I5 83 a0.toNatClampNeg)] dX12_sent_49 os_X12_185 ⟨rfl, rfl, rfl⟩ rfl rfl rfl (tX12_orNone ?_)
          refine V_goto dX12_sent_52 ?_
          exact V_iret dX12_sent_99 ⟨_, rfl, rfl⟩ rfl rfl ⟨_, _, _, rfl, rfl, k⟩
      · have k := k.2 c3
        refine V_aload_n dX12_sent_27 rfl ?_
        refine V_iload_n dX12_sent_28 rfl ?_
        refine V_iload_n dX12_sent_29 rfl ?_
        obtain ⟨hp18, k⟩ := k
        refine U_callV1 [.int a0, .int a1] dX12_sent_30 ov_X12_224 s_68 rfl ⟨rfl, rfl, rfl⟩ rfl rfl rfl (tX12_sent4 hp18 ?_)
        exact V_iret dX12_sent_33 ⟨_, rfl, rfl⟩ rfl rfl ⟨_, _, _, rfl, rfl, k⟩
    · have k := k.2 c2
      refine V_iconst (v := (-1 : Int32)) dX12_sent_20 rfl ?_
      exact V_iret dX12_sent_21 ⟨_, rfl, rfl⟩ rfl rfl ⟨_, _, _, rfl, rfl, k⟩
theorem op_sent {E : aE} {I : hI_} {J : hJ_} {P : hI_ → hJ_ → Prop} {a0 a1 : Int32} (h : Rel I) (hP : ∀ I2 J2, Rel I2 → P I2 J2) : Op2 E mX11_sent mX12_sent [.int a0, .int a1] I J P := by
  have hD := Rel_D h
  have hC := Rel_C h
  have hPl := Rel_P h
  have ec := Rel_nd h
  have hr := (Rel_rows h).2.2
  have kI := hP I J h
  refine wX11_sent ⟨fun c1 => wX12_sent ⟨fun _ => ⟨rfl, kI⟩, fun d => absurd (by rw [ec]; exact d) c1⟩, fun c1 => ⟨fun c2 => ?_, fun c2 => wX12_sent ⟨fun _ => ⟨rfl, kI⟩, fun _ => ⟨fun d => absurd d c2, fun _ => ⟨rfl, kI⟩⟩⟩⟩⟩
  rw [ec] at c1
  have c1' := c1
  rw [hD.2.1] at c1'
  obtain ⟨x, hx, rfl⟩ := in_lt (by omega) c1'
  have vx : vp_in (nI x) 24 := vp_in_nI (by omega) (by omega)
  have ok := deal_ok h hx
  obtain ⟨d0, d1, d2, d3, d4⟩ := deal_at h hx
  have cx : (nI x).toNatClampNeg = x := nI_clamp (by omega)
  refine ⟨fun c3 => ⟨fun c4 => ⟨hr, fun c5 => ⟨hr, ?_⟩, fun c5 => ?_⟩, fun c4 => ?_⟩, fun c3 => ⟨hr, ?_⟩⟩
  · rw [d0]
    refine tX7_newsOf h hx ok.1.2 (fun I1 hag => ?_)
    have hX := ag1_X (c := 19) rfl hag
    have hR := Rel_agX hX h
    refine wX12_sent ⟨fun d => absurd (by rw [hX 82 rfl]; exact c1) d, fun _ => ⟨fun _ => ⟨fun _ => ?_, fun d => absurd c3 d⟩, fun d => absurd c2 d⟩⟩
    refine tX12_layStruck hR (fun I3 hm => ⟨fun _ => ⟨fun _ => ?_, fun d => absurd d c4⟩, fun d => absurd d c5⟩)
    have hx1 : x < nD I1 := by rw [nD_X hX]; exact hx
    have sn := snt_M hR hm.1 hx1
    have hR3 := Rel_agM hm.1 hR
    have ok1 := deal_ok hR hx1
    have hq := cK_q hR ok1.2.1.2
    have hC1 := (Rel_C hR).2.2
    have hP1 := (Rel_P hR).2.2
    have e0 : its I3 (nI (cD I1 x)) 0 = nI (qN I1 (cD I1 x)) := by
      refine (its_cK (I := I3) (j := 0) (by omega) (by omega)).trans ?_
      rw [← hq.1]; exact cK_M hm.1 _ 0
    rw [sn.2.1, sn.1, e0, cx, (hm.2.1 x hx1).1]
    refine ⟨inD_nI (j := 1) (by omega) (by omega), inC_nI (j := 0) (by omega) (by omega), inD_nI (j := 0) (by omega) (by omega), vx, ?_⟩
    refine tX12_news hR3 (by omega) (by omega) (by omega) (fun I4 h4 => ⟨?_, hP I4 J (Rel_agM (ag1_M rfl (by omega) h4) hR3)⟩)
    rw [wI_M hm.1, wI_X hX, cD_X hX, pD_X hX, aD_X hX, qN_X hX]
  · rw [d4]
    refine wX12_sent ⟨fun d => absurd c1 d, fun _ => ⟨fun _ => ⟨fun _ => ?_, fun d => absurd c3 d⟩, fun d => absurd c2 d⟩⟩
    refine tX12_layStruck h (fun I3 hm => ⟨fun d => absurd c5 d, fun _ => ⟨vx, ?_, hP I3 J (Rel_agM hm.1 h)⟩⟩)
    rw [cx, (hm.2.1 x hx).1]
  · refine tX7_settle h (fun I2 hs => ⟨vx, ?_⟩)
    have hR := Rel_agX hs.1 h
    have hx1 : x < nD I2 := by rw [nD_X hs.1]; exact hx
    rw [cx, hs.2.2 x hx rfl]
    refine wX12_sent ⟨fun d => absurd (by rw [hs.1 82 rfl]; exact c1) d, fun _ => ⟨fun _ => ⟨fun _ => ?_, fun d => absurd c3 d⟩, fun d => absurd c2 d⟩⟩
    refine tX12_layStruck hR (fun I3 hm => ⟨fun _ => ⟨fun d => absurd c4 d, fun _ => ⟨vx, ?_, hP I3 J (Rel_agM hm.1 hR)⟩⟩, fun d => absurd (d.symm.trans c4) (by decide)⟩)
    rw [cx, hm.2.2 x hx1 rfl, tk_X hs.1]
  · obtain ⟨j, hj, rfl⟩ := in_le (n := 6) rfl c2
    have j4 : j < 4 := by
      rcases Nat.lt_or_ge j 4 with y | y
      · exact y
      · exact absurd (nI_le (a := 4) y (by omega)) c3
    refine wX12_sent ⟨fun d => absurd c1 d, fun _ => ⟨fun _ => ⟨fun d => absurd d c3, fun _ => ⟨inD_nI (by omega) (by omega), ?_, kI⟩⟩, fun d => absurd c2 d⟩⟩
    rw [snt_nI I (by omega) j4]
    exact (Rel_deal h hx).1 j j4
