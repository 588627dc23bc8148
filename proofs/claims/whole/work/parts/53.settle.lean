theorem pcuD_e {I I2 : hI_} (h : I2 82 = I 82) (d : Nat) : pD I2 d = pD I d ∧ cD I2 d = cD I d ∧ mD I2 d = mD I d ∧ uD I2 d = uD I d := by
  unfold pD cD mD uD; rw [h]; exact ⟨rfl, rfl, rfl, rfl⟩
theorem deal_atX {I0 I : hI_} (h : Rel I0) (hag : agX I0 I) {d : Nat} (hd : d < nD I0) : rat I 26 27 (nI d) 0 = nI (pD I0 d) ∧ rat I 26 27 (nI d) 1 = nI (cD I0 d) ∧ rat I 26 27 (nI d) 2 = nI (mD I0 d) ∧ rat I 26 27 (nI d) 3 = nI (uD I0 d) ∧ rat I 26 27 (nI d) 4 = nI (aD I0 d) := by
  have hR := Rel_agX hag h
  have e := pcuD_e (hag 82 rfl) d
  have := deal_at hR (d := d) (by rw [nD_X hag]; exact hd)
  rw [e.1, e.2.1, e.2.2.1, e.2.2.2, aD_e (wI_X hag) (hag 82 rfl)] at this
  exact this
/-- the class's tables behind some of the deals -/
def SX (I0 I : hI_) (g : Nat → Bool) : Prop := agX I0 I ∧ (∀ c, c < nC I0 → I 33 c = nI (unN I0 c - tot I0 c g) ∧ tot I0 c g ≤ unN I0 c ∧ I 34 c = nI (lu I0 c) - 1 ∧ I 35 c = (if tot I0 c g = unN I0 c then en0 (mxA I0 c g (nD I0)) else -4)) ∧ ∀ d, d < nD I0 → g d = true → I 31 d = nI (tk I0 d)
theorem SX_skip {I0 I : hI_} {g : Nat → Bool} {d : Nat} (hs : SX I0 I g) (hd : d < nD I0) (hg : g d = false) (h0 : tk I0 d = 0) : SX I0 (upI I 31 d 0) (adB g d) := by
  obtain ⟨s1, s2, s3⟩ := hs
  refine ⟨agX_tr s1 (agX_up rfl), fun c hc => ?_, fun e he h2 => ?_⟩
  · have t : tot I0 c (adB g d) = tot I0 c g := by
      rw [tot_add hd hg, h0]; split <;> rfl
    have m : mxA I0 c (adB g d) (nD I0) = mxA I0 c g (nD I0) := mxA_e _ (fun e he h1 h2 => adB_o (fun z => by rw [z] at h2; omega))
    rw [t, m]
    exact s2 c hc
  · rw [upI_at]
    by_cases z : e = d
    · rw [if_pos ⟨rfl, z⟩, z, h0]; rfl
    · rw [if_neg (fun q => z q.2)]
      rw [adB_o z] at h2
      exact s3 e he h2
set_option maxHeartbeats 4000000 in
set_option maxRecDepth 20000 in
theorem wX7_isStanding {E : aE} {P : Int32 → hI_ → hJ_ → Prop} {I : hI_} {J : hJ_} {a0 : Int32} {a1 : Int32} (k : (rok I 24 8 12) ∧ ((¬ (a1 < (rat I 24 25 a0 (1 : Int32)))) → vp_in a0 12) ∧ P (b2i ((¬ (a1 < (rat I 24 25 a0 (1 : Int32)))) ∧ (¬ ((I 34 a0.toNatClampNeg) < a1)))) I J) : CallI E mX7_isStanding [.ref 29, .int a0, .int a1] SH I J P := by
  refine Call_of (L := [.ref 29, .int a0, .int a1]) ok_X7_isStanding.1 rfl rfl ?_
  refine V_aload_n dX7_isStanding_0 rfl ?_
  refine U_getR dX7_isStanding_1 fl_X7_48 s_29 rfl ?_
  refine V_iload_n dX7_isStanding_4 rfl ?_
  refine V_iconst (v := (1 : Int32)) dX7_isStanding_5 rfl ?_
  obtain ⟨hp1, k⟩ := k
  refine U_callV1 [.int a0, .int (1 : Int32)] dX7_isStanding_6 ov_X7_59 s_24 rfl ⟨rfl, rfl, rfl⟩ rfl rfl rfl (tX5_at s_24 s_25 (by decide) hp1 ?_)
  refine V_iload_n dX7_isStanding_9 rfl ?_
  obtain ⟨hc2005, k⟩ := k
  have key2 : ∀ (y2004 : Int32), y2004 = (b2i ((¬ (a1 < (rat I 24 25 a0 (1 : Int32)))) ∧ (¬ ((I 34 a0.toNatClampNeg) < a1)))) → V E mX7_isStanding (kI SH P) 28 [.ref 29, .int a0, .int a1] [.int y2004] (SH, I, J) (0, 0) := by
    intro y2004 ey2004
    subst ey2004
    exact V_iret dX7_isStanding_28 ⟨_, rfl, b2i_nar⟩ rfl rfl ⟨_, _, _, rfl, rfl, k⟩
  refine V_icmp_gt dX7_isStanding_10 (fun c2006 => ?_) (fun c2006 => ?_)
  · refine V_iconst (v := (0 : Int32)) dX7_isStanding_27 rfl ?_
    exact key2 _ ((b2i_0.mpr (fun q => q.1 c2006)).symm)
  · refine V_iload_n dX7_isStanding_13 rfl ?_
    refine V_aload_n dX7_isStanding_14 rfl ?_
    refine U_getR dX7_isStanding_15 fl_X7_24 s_29 rfl ?_
    refine V_iload_n dX7_isStanding_18 rfl ?_
    have hb2003 := hc2005 c2006
    refine U_iald dX7_isStanding_19 s_34 hb2003 ?_
    refine V_icmp_gt dX7_isStanding_20 (fun c2007 => ?_) (fun c2007 => ?_)
    · refine V_iconst (v := (0 : Int32)) dX7_isStanding_27 rfl ?_
      exact key2 _ ((b2i_0.mpr (fun q => (fun q => q c2007) q.2)).symm)
    · refine V_iconst (v := (1 : Int32)) dX7_isStanding_23 rfl ?_
      refine V_goto dX7_isStanding_24 ?_
      exact key2 _ ((b2i_1.mpr (⟨c2006, c2007⟩)).symm)
theorem tX7_isStanding {E : aE} {P : Int32 → hI_ → hJ_ → Prop} {I0 I : hI_} {J : hJ_} {c t : Nat} (h : Rel I0) (hag : agX I0 I) (hc : c < nC I0) (h34 : I 34 c = nI (lu I0 c) - 1) (ht : t < 100000) (k : P (b2i (stB I0 (nI c) (nI t) = true)) I J) : CallI E mX7_isStanding [.ref 29, .int (nI c), .int (nI t)] SH I J P := by
  have hR := Rel_agX hag h
  have hC := (Rel_C h).2.2
  have hr := (Rel_rows hR).2.1
  have e1 : rat I 24 25 (nI c) 1 = cK I0 c 1 := (((Rel_call hR (by rw [nC_X hag]; exact hc)).1 1 (by omega)).1).trans (cK_X hag c 1)
  have lul := lu_le I0 c
  refine wX7_isStanding ⟨hr, fun _ => vp_in_nI (by omega) (by omega), ?_⟩
  rw [e1, nI_clamp (by omega), h34]
  have : b2i ((¬ (nI t < cK I0 c 1)) ∧ (¬ (nI (lu I0 c) - 1 < nI t))) = b2i (stB I0 (nI c) (nI t) = true) := by
    refine b2i_congr ?_
    rw [lt_pred (by omega), Int32.not_lt]
    unfold stB
    rw [decide_eq_true_iff, show its I0 (nI c) 1 = cK I0 c 1 from its_cK (j := 1) (by omega) (by omega), nI_clamp (by omega)]
  rw [this]; exact k
set_option maxHeartbeats 4000000 in
set_option maxRecDepth 20000 in
theorem wX7_strike {E : aE} {P : hI_ → hJ_ → Prop} {I : hI_} {J : hJ_} {a0 : Int32} (k : (rok I 26 5 24) ∧ (rok I 26 5 24) ∧ ((a0 < (0 : Int32) → P I J) ∧ (¬ (a0 < (0 : Int32)) → (((24 : Int32) ≤ a0 → P I J) ∧ (¬ ((24 : Int32) ≤ a0) → (((rat I 26 27 a0 (1 : Int32)) < (0 : Int32) → P I J) ∧ (¬ ((rat I 26 27 a0 (1 : Int32)) < (0 : Int32)) → (((rat I 26 27 a0 (1 : Int32)) < (12 : Int32) → (vp_in a0 24) ∧ (vp_in (rat I 26 27 a0 (1 : Int32)) 12) ∧ (((I 33 (rat I 26 27 a0 (1 : Int32)).toNatClampNeg) ≤ (0 : Int32) → P (upI I 31 a0.toNatClampNeg (0 : Int32)) J) ∧ (¬ ((I 33 (rat I 26 27 a0 (1 : Int32)).toNatClampNeg) ≤ (0 : Int32)) → CallI E mX7_isStanding [.ref 29, .int (rat I 26 27 a0 (1 : Int32)), .int (rat I 26 27 a0 (4 : Int32))] SH (upI I 31 a0.toNatClampNeg (0 : Int32)) J (fun x10 I11 J12 => ((x10 = (0 : Int32) → P I11 J12) ∧ (¬ (x10 = (0 : Int32)) → (vp_in (rat I 26 27 a0 (1 : Int32)) 12) ∧ (rok I11 26 5 24) ∧ (vp_in a0 24) ∧ (vp_in (rat I 26 27 a0 (1 : Int32)) 12) ∧ (vp_in a0 24) ∧ (vp_in (rat I 26 27 a0 (1 : Int32)) 12) ∧ (vp_in (rat I 26 27 a0 (1 : Int32)) 12) ∧ (vp_in (rat I 26 27 a0 (1 : Int32)) 12) ∧ P (upI (upI (upI I11 31 a0.toNatClampNeg (jmin (I11 33 (rat I 26 27 a0 (1 : Int32)).toNatClampNeg) (rat I11 26 27 a0 (3 : Int32)))) 33 ((rat I 26 27 a0 (1 : Int32)).toNatClampNeg) ((I11 33 (rat I 26 27 a0 (1 : Int32)).toNatClampNeg) - ((upI I11 31 a0.toNatClampNeg (jmin (I11 33 (rat I 26 27 a0 (1 : Int32)).toNatClampNeg) (rat I11 26 27 a0 (3 : Int32)))) 31 a0.toNatClampNeg))) 35 ((rat I 26 27 a0 (1 : Int32)).toNatClampNeg) (if ¬ ((upI (upI I11 31 a0.toNatClampNeg (jmin (I11 33 (rat I 26 27 a0 (1 : Int32)).toNatClampNeg) (rat I11 26 27 a0 (3 : Int32)))) 33 ((rat I 26 27 a0 (1 : Int32)).toNatClampNeg) ((I11 33 (rat I 26 27 a0 (1 : Int32)).toNatClampNeg) - ((upI I11 31 a0.toNatClampNeg (jmin (I11 33 (rat I 26 27 a0 (1 : Int32)).toNatClampNeg) (rat I11 26 27 a0 (3 : Int32)))) 31 a0.toNatClampNeg))) 33 (rat I 26 27 a0 (1 : Int32)).toNatClampNeg) = (0 : Int32) then (-4 : Int32) else (rat I 26 27 a0 (4 : Int32)))) J12)))))) ∧ (¬ ((rat I 26 27 a0 (1 : Int32)) < (12 : Int32)) → P I J))))))))) : CallV E mX7_strike [.ref 29, .int a0] SH I J P := by
  refine Call_of (L := [.ref 29, .int a0, .retAddr 0, .retAddr 0]) ok_X7_strike.1 rfl rfl ?_
  refine V_aload_n dX7_strike_0 rfl ?_
  refine U_getR dX7_strike_1 fl_X7_52 s_29 rfl ?_
  refine V_iload_n dX7_strike_4 rfl ?_
  refine V_iconst (v := (1 : Int32)) dX7_strike_5 rfl ?_
  obtain ⟨hp1, k⟩ := k
  refine U_callV1 [.int a0, .int (1 : Int32)] dX7_strike_6 ov_X7_59 s_26 rfl ⟨rfl, rfl, rfl⟩ rfl rfl rfl (tX5_at s_26 s_27 (by decide) hp1 ?_)
  refine U_istore_n (L2 := [.ref 29, .int a0, .int (rat I 26 27 a0 (1 : Int32)), .retAddr 0]) dX7_strike_9 (by decide) rfl ?_
  refine V_aload_n dX7_strike_10 rfl ?_
  refine U_getR dX7_strike_11 fl_X7_52 s_29 rfl ?_
  refine V_iload_n dX7_strike_14 rfl ?_
  refine V_iconst (v := (4 : Int32)) dX7_strike_15 rfl ?_
  obtain ⟨hp2, k⟩ := k
  refine U_callV1 [.int a0, .int (4 : Int32)] dX7_strike_16 ov_X7_59 s_26 rfl ⟨rfl, rfl, rfl⟩ rfl rfl rfl (tX5_at s_26 s_27 (by decide) hp2 ?_)
  refine U_istore_n (L2 := [.ref 29, .int a0, .int (rat I 26 27 a0 (1 : Int32)), .int (rat I 26 27 a0 (4 : Int32))]) dX7_strike_19 (by decide) rfl ?_
  refine V_iload_n dX7_strike_20 rfl ?_
  refine V_if_lt dX7_strike_21 (fun c3 => ?_) (fun c3 => ?_)
  · have k := k.1 c3
    exact V_vret dX7_strike_40 rfl rfl rfl ⟨_, _, rfl, k⟩
  · have k := k.2 c3
    refine V_iload_n dX7_strike_24 rfl ?_
    refine V_bipush (v := (24 : Int32)) dX7_strike_25 rfl ?_
    refine V_icmp_ge dX7_strike_27 (fun c4 => ?_) (fun c4 => ?_)
    · have k := k.1 c4
      exact V_vret dX7_strike_40 rfl rfl rfl ⟨_, _, rfl, k⟩
    · have k := k.2 c4
      refine V_iload_n dX7_strike_30 rfl ?_
      refine V_if_lt dX7_strike_31 (fun c5 => ?_) (fun c5 => ?_)
      · have k := k.1 c5
        exact V_vret dX7_strike_40 rfl rfl rfl ⟨_, _, rfl, k⟩
      · have k := k.2 c5
        refine V_iload_n dX7_strike_34 rfl ?_
        refine V_bipush (v := (12 : Int32)) dX7_strike_35 rfl ?_
        refine V_icmp_lt dX7_strike_37 (fun c6 => ?_) (fun c6 => ?_)
        · have k := k.1 c6
          refine V_aload_n dX7_strike_41 rfl ?_
          refine U_getR dX7_strike_42 fl_X7_15 s_29 rfl ?_
          refine V_iload_n dX7_strike_45 rfl ?_
          refine V_iconst (v := (0 : Int32)) dX7_strike_46 rfl ?_
          obtain ⟨hb7, k⟩ := k
          refine U_iast dX7_strike_47 s_31 hb7 ?_
          refine V_aload_n dX7_strike_48 rfl ?_
          refine U_getR dX7_strike_49 fl_X7_21 s_29 rfl ?_
          refine V_iload_n dX7_strike_52 rfl ?_
          obtain ⟨hb8, k⟩ := k
          refine U_ialdx (x := I 33 (rat I 26 27 a0 (1 : Int32)).toNatClampNeg) dX7_strike_53 s_33 hb8 rfl ?_
          refine V_if_le dX7_strike_54 (fun c9 => ?_) (fun c9 => ?_)
          · have k := k.1 c9
            exact V_vret dX7_strike_126 rfl rfl rfl ⟨_, _, rfl, k⟩
          · have k := k.2 c9
            refine V_aload_n dX7_strike_57 rfl ?_
            refine V_iload_n dX7_strike_58 rfl ?_
            refine V_iload_n dX7_strike_59 rfl ?_
            refine U_callV1 [.int (rat I 26 27 a0 (1 : Int32)), .int (rat I 26 27 a0 (4 : Int32))] dX7_strike_60 ov_X7_83 s_29 rfl ⟨rfl, rfl, rfl⟩ rfl rfl rfl (CallI_mono k (fun x10 I11 J12 k => ?_))
            refine V_if_eq dX7_strike_63 (fun c13 => ?_) (fun c13 => ?_)
            · have k := k.1 c13
              exact V_vret dX7_strike_126 rfl rfl rfl ⟨_, _, rfl, k⟩
            · have k := k.2 c13
              refine V_aload_n dX7_strike_66 rfl ?_
              refine U_getR dX7_strike_67 fl_X7_15 s_29 rfl ?_
              refine V_iload_n dX7_strike_70 rfl ?_
              refine V_aload_n dX7_strike_71 rfl ?_
              refine U_getR dX7_strike_72 fl_X7_21 s_29 rfl ?_
              refine V_iload_n dX7_strike_75 rfl ?_
              obtain ⟨hb14, k⟩ := k
              refine U_iald dX7_strike_76 s_33 hb14 ?_
              refine V_aload_n dX7_strike_77 rfl ?_
              refine U_getR dX7_strike_78 fl_X7_52 s_29 rfl ?_
              refine V_iload_n dX7_strike_81 rfl ?_
              refine V_iconst (v := (3 : Int32)) dX7_strike_82 rfl ?_
              obtain ⟨hp15, k⟩ := k
              refine U_callV1 [.int a0, .int (3 : Int32)] dX7_strike_83 ov_X7_59 s_26 rfl ⟨rfl, rfl, rfl⟩ rfl rfl rfl (tX5_at s_26 s_27 (by decide) hp15 ?_)
              refine V_mmin dX7_strike_86 om_X7_86 rfl ?_
              obtain ⟨hb16, k⟩ := k
              refine U_iast dX7_strike_89 s_31 hb16 ?_
              refine V_aload_n dX7_strike_90 rfl ?_
              refine U_getR dX7_strike_91 fl_X7_21 s_29 rfl ?_
              refine V_iload_n dX7_strike_94 rfl ?_
              refine V_dup2 dX7_strike_95 ?_
              obtain ⟨hb17, k⟩ := k
              refine U_ialdx (x := I11 33 (rat I 26 27 a0 (1 : Int32)).toNatClampNeg) dX7_strike_96 s_33 hb17 rfl ?_
              refine V_aload_n dX7_strike_97 rfl ?_
              refine U_getR dX7_strike_98 fl_X7_15 s_29 rfl ?_
              refine V_iload_n dX7_strike_101 rfl ?_
              obtain ⟨hb18, k⟩ := k
              refine U_iald dX7_strike_102 s_31 hb18 ?_
              refine V_isub dX7_strike_103 ?_
              obtain ⟨hb19, k⟩ := k
              refine U_iast dX7_strike_104 s_33 hb19 ?_
              refine V_aload_n dX7_strike_105 rfl ?_
              refine U_getR dX7_strike_106 fl_X7_27 s_29 rfl ?_
              refine V_iload_n dX7_strike_109 rfl ?_
              refine V_aload_n dX7_strike_110 rfl ?_
              refine U_getR dX7_strike_111 fl_X7_21 s_29 rfl ?_
              refine V_iload_n dX7_strike_114 rfl ?_
              obtain ⟨hb20, k⟩ := k
              refine U_iald dX7_strike_115 s_33 hb20 ?_
              have key21 : ∀ (y2022 : Int32), y2022 = (if ¬ ((upI (upI I11 31 a0.toNatClampNeg (jmin (I11 33 (rat I 26 27 a0 (1 : Int32)).toNatClampNeg) (rat I11 26 27 a0 (3 : Int32)))) 33 ((rat I 26 27 a0 (1 : Int32)).toNatClampNeg) ((I11 33 (rat I 26 27 a0 (1 : Int32)).toNatClampNeg) - ((upI I11 31 a0.toNatClampNeg (jmin (I11 33 (rat I 26 27 a0 (1 : Int32)).toNatClampNeg) (rat I11 26 27 a0 (3 : Int32)))) 31 a0.toNatClampNeg))) 33 (rat I 26 27 a0 (1 : Int32)).toNatClampNeg) = (0 : Int32) then (-4 : Int32) else (rat I 26 27 a0 (4 : Int32))) → V E mX7_strike (kV SH P) 125 [.ref 29, .int a0, .int (rat I 26 27 a0 (1 : Int32)), .int (rat I 26 27 a0 (4 : Int32))] [.int y2022, .int (rat I 26 27 a0 (1 : Int32)), .ref 35] (SH, upI (upI I11 31 a0.toNatClampNeg (jmin (I11 33 (rat I 26 27 a0 (1 : Int32)).toNatClampNeg) (rat I11 26 27 a0 (3 : Int32)))) 33 ((rat I 26 27 a0 (1 : Int32)).toNatClampNeg) ((I11 33 (rat I 26 27 a0 (1 : Int32)).toNatClampNeg) - ((upI I11 31 a0.toNatClampNeg (jmin (I11 33 (rat I 26 27 a0 (1 : Int32)).toNatClampNeg) (rat I11 26 27 a0 (3 : Int32)))) 31 a0.toNatClampNeg)), J12) (0, 0) := by
                intro y2022 ey2022
                subst ey2022
                obtain ⟨hb2023, k⟩ := k
                refine U_iast dX7_strike_125 s_35 hb2023 ?_
                exact V_vret dX7_strike_126 rfl rfl rfl ⟨_, _, rfl, k⟩
              refine V_if_ne dX7_strike_116 (fun c2024 => ?_) (fun c2024 => ?_)
              · refine V_bipush (v := (-4 : Int32)) dX7_strike_123 rfl ?_
                exact key21 _ (by rw [if_pos c2024])
              · refine V_iload_n dX7_strike_119 rfl ?_
                refine V_goto dX7_strike_120 ?_
                exact key21 _ (by rw [if_neg (not_not_intro c2024)])
        · have k := k.2 c6
          exact V_vret dX7_strike_40 rfl rfl rfl ⟨_, _, rfl, k⟩
theorem tX7_strike {E : aE} {P : hI_ → hJ_ → Prop} {I0 I : hI_} {J : hJ_} {g : Nat → Bool} {d : Nat} (h : Rel I0) (hs : SX I0 I g) (hd : d < nD I0) (hg : g d = false) (hk : ∀ e, e < nD I0 → cD I0 e = cD I0 d → (g e = true ↔ kD I0 e < kD I0 d)) (k : ∀ I2, SX I0 I2 (adB g d) → I2 30 = I 30 → P I2 J) : CallV E mX7_strike [.ref 29, .int (nI d)] SH I J P := by
  have hD := (Rel_D h).2.2
  have hC := (Rel_C h).2.2
  have hR := Rel_agX hs.1 h
  have hr := (Rel_rows hR).2.2
  obtain ⟨d0, d1, d2, d3, d4⟩ := deal_atX h hs.1 hd
  have ok := deal_ok h hd
  have hc := ok.2.1.2
  have un := un_ok h hc
  have T := tot_tk h hd hk
  obtain ⟨s33, stt, s34, s35⟩ := hs.2.1 _ hc
  have vd : vp_in (nI d) 24 := vp_in_nI (by omega) (by omega)
  have vc : vp_in (nI (cD I0 d)) 12 := vp_in_nI (by omega) (by omega)
  have cd : (nI d).toNatClampNeg = d := nI_clamp (by omega)
  have cc : (nI (cD I0 d)).toNatClampNeg = cD I0 d := nI_clamp (by omega)
  refine wX7_strike ⟨hr, hr, fun z => absurd z (nI_pos (by omega)), fun _ => ⟨fun z => absurd z (nI_ge (b := 24) (by omega) (by omega)), fun _ => ?_⟩⟩
  rw [d1, d4, cd, cc, s33]
  refine ⟨fun z => absurd z (nI_pos (by omega)), fun _ => ⟨fun _ => ⟨vd, vc, fun z => ?_, fun z => ?_⟩, fun z => absurd (nI_lt (b := 12) (by omega) (by omega)) z⟩⟩
  · have z := (nI_leJ (b := 0) (by omega) (by omega)).mp z
    refine k _ (SX_skip hs hd hg ?_) (by funext j; rw [upI_at, if_neg (by omega)])
    rw [T]; split
    · omega
    · rfl
  · have z : ¬ (unN I0 (cD I0 d) - tot I0 (cD I0 d) g ≤ 0) := fun y => z ((nI_leJ (b := 0) (by omega) (by omega)).mpr y)
    refine tX7_isStanding h (agX_tr hs.1 (agX_up rfl)) hc (by rw [upI_at, if_neg (by omega)]; exact s34) (by omega) ⟨fun y => ?_, fun y => ?_⟩
    · refine k _ (SX_skip hs hd hg ?_) (by funext j; rw [upI_at, if_neg (by omega)])
      have : ¬ stB I0 (nI (cD I0 d)) (nI (aD I0 d)) = true := fun q => by
        have e : b2i (stB I0 (nI (cD I0 d)) (nI (aD I0 d)) = true) = 1 := if_pos q
        rw [e] at y; exact absurd y (by decide)
      rw [T, if_neg this]
    · have st : stB I0 (nI (cD I0 d)) (nI (aD I0 d)) = true := by
        cases q : stB I0 (nI (cD I0 d)) (nI (aD I0 d)) with
        | true => rfl
        | false => rw [q] at y; exact absurd rfl y
      rw [if_pos st] at T
      obtain ⟨f0, f1, f2, f3, f4⟩ := deal_atX h (agX_tr hs.1 (agX_up (I := I) (a := 31) (i := d) (v := 0) rfl)) hd
      have hR2 := Rel_agX (agX_tr hs.1 (agX_up (I := I) (a := 31) (i := d) (v := 0) rfl)) h
      have r2 := (Rel_rows hR2).2.2
      refine ⟨vc, r2, vd, vc, vd, vc, vc, vc, ?_⟩
      have g33 : (upI I 31 d 0) 33 (cD I0 d) = nI (unN I0 (cD I0 d) - tot I0 (cD I0 d) g) := by rw [upI_at, if_neg (by omega)]; exact s33
      have em : jmin (nI (unN I0 (cD I0 d) - tot I0 (cD I0 d) g)) (nI (uD I0 d)) = nI (tk I0 d) := by rw [jmin_nI (by omega) (by omega), T, Nat.min_comm]
      rw [f3, g33, em]
      have hit : ∀ (K : hI_) (x : Int32), upI K 31 d x 31 d = x := fun K x => upI_same
      have hit2 : ∀ (K : hI_) (x : Int32), upI K 33 (cD I0 d) x 33 (cD I0 d) = x := fun K x => upI_same
      rw [hit, hit2, nI_sub (by omega)]
      have tp : 0 < tk I0 d := by omega
      have ta : ∀ c, tot I0 c (adB g d) = tot I0 c g + if cD I0 d = c then tk I0 d else 0 := fun c => tot_add hd hg
      refine k _ ⟨agX_tr hs.1 (agX_tr (agX_up rfl) (agX_tr (agX_up rfl) (agX_tr (agX_up rfl) (agX_up rfl)))), fun c hcc => ?_, fun e he h2 => ?_⟩ (by funext j; rw [upI_at, if_neg (by omega), upI_at, if_neg (by omega), upI_at, if_neg (by omega), upI_at, if_neg (by omega)])
      · rw [ta c]
        by_cases q : cD I0 d = c
        · rw [if_pos q]
          subst q
          refine ⟨?_, by omega, ?_, ?_⟩
          · rw [upI_at, if_neg (by omega), hit2]
            exact congrArg nI (by omega)
          · rw [upI_at, if_neg (by omega), upI_at, if_neg (by omega), upI_at, if_neg (by omega), upI_at, if_neg (by omega)]; exact s34
          · rw [upI_at, if_pos ⟨rfl, rfl⟩]
            have mx : mxA I0 (cD I0 d) (adB g d) (nD I0) = aD I0 d + 1 := mxA_top hd rfl tp (fun e he h1 h2 => by
              have := (kD_lt h he hd).mp ((hk e he h1).mp h2)
              omega)
            rw [mx]
            have e0 : (nI (unN I0 (cD I0 d) - tot I0 (cD I0 d) g - tk I0 d) = 0) ↔ tot I0 (cD I0 d) g + tk I0 d = unN I0 (cD I0 d) := by
              rw [show (0 : Int32) = nI 0 from rfl, nI_eqI (by omega) (by omega)]; omega
            by_cases w : tot I0 (cD I0 d) g + tk I0 d = unN I0 (cD I0 d)
            · rw [if_pos w, if_neg (fun v => v (e0.mpr w))]; rfl
            · rw [if_neg w, if_pos (fun v => w (e0.mp v))]
        · rw [if_neg q]
          have mx : mxA I0 c (adB g d) (nD I0) = mxA I0 c g (nD I0) := mxA_e _ (fun e he h1 h2 => adB_o (fun z => by rw [z] at h1; exact q h1))
          rw [mx]
          obtain ⟨b1, b2, b3, b4⟩ := hs.2.1 c hcc
          refine ⟨?_, b2, ?_, ?_⟩
          · rw [upI_at, if_neg (by omega), upI_at, if_neg (fun v => q v.2.symm), upI_at, if_neg (by omega), upI_at, if_neg (by omega)]; exact b1
          · rw [upI_at, if_neg (by omega), upI_at, if_neg (by omega), upI_at, if_neg (by omega), upI_at, if_neg (by omega)]; exact b3
          · rw [upI_at, if_neg (fun v => q v.2.symm), upI_at, if_neg (by omega), upI_at, if_neg (by omega), upI_at, if_neg (by omega)]; exact b4
      · rw [upI_at, if_neg (by omega), upI_at, if_neg (by omega), upI_at]
        by_cases w : e = d
        · rw [if_pos ⟨rfl, w⟩, w]
        · rw [if_neg (fun v => w v.2), upI_at, if_neg (fun v => w v.2)]
          rw [adB_o w] at h2
          exact hs.2.2 e he h2
def HX7_settle_2 (E : aE) (P : hI_ → hJ_ → Prop) (v1 : Int32) (I : hI_) (J : hJ_) : Prop := V E mX7_settle (kV SH P) 2 [.ref 29, .int v1] [] (SH, I, J) (0, 0)
def HX7_settle_62 (E : aE) (P : hI_ → hJ_ → Prop) (v1 : Int32) (I : hI_) (J : hJ_) : Prop := V E mX7_settle (kV SH P) 62 [.ref 29, .int v1] [] (SH, I, J) (0, 0)
set_option maxHeartbeats 4000000 in
set_option maxRecDepth 20000 in
theorem wX7_settle {E : aE} {P : hI_ → hJ_ → Prop} {I : hI_} {J : hJ_}  (k : HX7_settle_2 E P (0 : Int32) I J) : CallV E mX7_settle [.ref 29] SH I J P := by
  refine Call_of (L := [.ref 29, .retAddr 0]) ok_X7_settle.1 rfl rfl ?_
  refine V_iconst (v := (0 : Int32)) dX7_settle_0 rfl ?_
  refine U_istore_n (L2 := [.ref 29, .int (0 : Int32)]) dX7_settle_1 (by decide) rfl ?_
  exact k
set_option maxHeartbeats 4000000 in
set_option maxRecDepth 20000 in
theorem wX7_settle_2 {E : aE} {P : hI_ → hJ_ → Prop} {I : hI_} {J : hJ_} {v1 : Int32} (k : (((I 24 3) ≤ v1 → CallV E mX7_putInOrder [.ref 29] SH I J (fun I3 J4 => HX7_settle_62 E P (0 : Int32) I3 J4)) ∧ (¬ ((I 24 3) ≤ v1) → (rok I 24 8 12) ∧ (vp_in v1 12) ∧ (cOK (upI I 33 v1.toNatClampNeg (rat I 24 25 v1 (4 : Int32))) v1) ∧ (vp_in v1 12) ∧ (vp_in v1 12) ∧ HX7_settle_2 E P (v1 + (1 : Int32)) (upI (upI (upI I 33 v1.toNatClampNeg (rat I 24 25 v1 (4 : Int32))) 34 v1.toNatClampNeg (nI (lu (upI I 33 v1.toNatClampNeg (rat I 24 25 v1 (4 : Int32))) v1.toNatClampNeg) - 1)) 35 v1.toNatClampNeg (-4 : Int32)) J))) : HX7_settle_2 E P v1 I J := by
  show V E mX7_settle (kV SH P) 2 [.ref 29, .int v1] [] (SH, I, J) (0, 0)
  refine V_iload_n dX7_settle_2 rfl ?_
  refine V_aload_n dX7_settle_3 rfl ?_
  refine U_getR dX7_settle_4 fl_X7_48 s_29 rfl ?_
  refine U_getI dX7_settle_7 fl_X7_53 s_24 rfl ?_
  refine V_icmp_ge dX7_settle_10 (fun c1 => ?_) (fun c1 => ?_)
  · have k := k.1 c1
    refine V_aload_n dX7_settle_56 rfl ?_
    refine U_callV0 [] dX7_settle_57 ov_X7_67 s_29 rfl ⟨rfl, rfl, rfl⟩ rfl rfl rfl (CallV_mono k (fun I3 J4 k => ?_))
    refine V_iconst (v := (0 : Int32)) dX7_settle_60 rfl ?_
    refine U_istore_n (L2 := [.ref 29, .int (0 : Int32)]) dX7_settle_61 (by decide) rfl ?_
    exact k
  · have k := k.2 c1
    refine V_aload_n dX7_settle_13 rfl ?_
    refine U_getR dX7_settle_14 fl_X7_21 s_29 rfl ?_
    refine V_iload_n dX7_settle_17 rfl ?_
    refine V_aload_n dX7_settle_18 rfl ?_
    refine U_getR dX7_settle_19 fl_X7_48 s_29 rfl ?_
    refine V_iload_n dX7_settle_22 rfl ?_
    refine V_iconst (v := (4 : Int32)) dX7_settle_23 rfl ?_
    obtain ⟨hp5, k⟩ := k
    refine U_callV1 [.int v1, .int (4 : Int32)] dX7_settle_24 ov_X7_59 s_24 rfl ⟨rfl, rfl, rfl⟩ rfl rfl rfl (tX5_at s_24 s_25 (by decide) hp5 ?_)
    obtain ⟨hb6, k⟩ := k
    refine U_iast dX7_settle_27 s_33 hb6 ?_
    refine V_aload_n dX7_settle_28 rfl ?_
    refine U_getR dX7_settle_29 fl_X7_24 s_29 rfl ?_
    refine V_iload_n dX7_settle_32 rfl ?_
    refine V_aload_n dX7_settle_33 rfl ?_
    refine U_getR dX7_settle_34 fl_X7_38 s_29 rfl ?_
    refine V_iload_n dX7_settle_37 rfl ?_
    obtain ⟨hp7, k⟩ := k
    refine U_callV1 [.int v1] dX7_settle_38 ov_X7_63 s_21 rfl ⟨rfl, rfl, rfl⟩ rfl rfl rfl (tX1_lastMinute hp7 ?_)
    obtain ⟨hb8, k⟩ := k
    refine U_iast dX7_settle_41 s_34 hb8 ?_
    refine V_aload_n dX7_settle_42 rfl ?_
    refine U_getR dX7_settle_43 fl_X7_27 s_29 rfl ?_
    refine V_iload_n dX7_settle_46 rfl ?_
    refine V_bipush (v := (-4 : Int32)) dX7_settle_47 rfl ?_
    obtain ⟨hb9, k⟩ := k
    refine U_iast dX7_settle_49 s_35 hb9 ?_
    refine U_iinc (v := v1 + (1 : Int32)) (L2 := [.ref 29, .int (v1 + (1 : Int32))]) dX7_settle_50 (by decide) rfl rfl rfl ?_
    refine V_goto dX7_settle_53 ?_
    exact k
set_option maxHeartbeats 4000000 in
set_option maxRecDepth 20000 in
theorem wX7_settle_62 {E : aE} {P : hI_ → hJ_ → Prop} {I : hI_} {J : hJ_} {v1 : Int32} (k : (((I 26 3) ≤ v1 → P I J) ∧ (¬ ((I 26 3) ≤ v1) → (vp_in v1 24) ∧ CallV E mX7_strike [.ref 29, .int (I 30 v1.toNatClampNeg)] SH I J (fun I4 J5 => HX7_settle_62 E P (v1 + (1 : Int32)) I4 J5)))) : HX7_settle_62 E P v1 I J := by
  show V E mX7_settle (kV SH P) 62 [.ref 29, .int v1] [] (SH, I, J) (0, 0)
  refine V_iload_n dX7_settle_62 rfl ?_
  refine V_aload_n dX7_settle_63 rfl ?_
  refine U_getR dX7_settle_64 fl_X7_52 s_29 rfl ?_
  refine U_getI dX7_settle_67 fl_X7_53 s_26 rfl ?_
  refine V_icmp_ge dX7_settle_70 (fun c1 => ?_) (fun c1 => ?_)
  · have k := k.1 c1
    exact V_vret dX7_settle_89 rfl rfl rfl ⟨_, _, rfl, k⟩
  · have k := k.2 c1
    refine V_aload_n dX7_settle_73 rfl ?_
    refine V_aload_n dX7_settle_74 rfl ?_
    refine U_getR dX7_settle_75 fl_X7_9 s_29 rfl ?_
    refine V_iload_n dX7_settle_78 rfl ?_
    obtain ⟨hb2, k⟩ := k
    refine U_iald dX7_settle_79 s_30 hb2 ?_
    refine U_callV0 [.int (I 30 v1.toNatClampNeg)] dX7_settle_80 ov_X7_70 s_29 rfl ⟨rfl, rfl, rfl⟩ rfl rfl rfl (CallV_mono k (fun I4 J5 k => ?_))
    refine U_iinc (v := v1 + (1 : Int32)) (L2 := [.ref 29, .int (v1 + (1 : Int32))]) dX7_settle_83 (by decide) rfl rfl rfl ?_
    refine V_goto dX7_settle_86 ?_
    exact k
theorem strike_loop {E : aE} {P : hI_ → hJ_ → Prop} {I0 : hI_} {J : hJ_} {o : Nat → Nat} (h : Rel I0) (hs : srt I0 (nD I0) o) (k : ∀ I2, SX I0 I2 (fun _ => true) → P I2 J) : ∀ (m i : Nat) (I : hI_) (g : Nat → Bool), i + m = nD I0 → SX I0 I g → (∀ j, j < nD I0 → I 30 j = nI (o j)) → (∀ e, e < nD I0 → (g e = true ↔ ∃ j, j < i ∧ o j = e)) → HX7_settle_62 E P (nI i) I J
  | 0, i, I, g, hi, hx, ho, hg => by
    have hD := Rel_D h
    refine wX7_settle_62 ?_
    rw [hx.1 26 rfl, hD.1]
    refine ⟨fun _ => k I ⟨hx.1, fun c hc => ?_, fun d hd _ => hx.2.2 d hd ?_⟩, fun z => absurd (nI_le (by omega) (by omega)) z⟩
    · have ga : ∀ e, e < nD I0 → g e = true := fun e he => by
        obtain ⟨j, j1, j2⟩ := hs.2.2 e he
        exact (hg e he).mpr ⟨j, by omega, j2⟩
      have := hx.2.1 c hc
      rw [← tot_e (g := g) (g2 := fun _ => true) (fun e he _ => (ga e he).symm), ← mxA_e (g := g) (g2 := fun _ => true) _ (fun e he _ _ => (ga e he).symm)] at this
      exact this
    · obtain ⟨j, j1, j2⟩ := hs.2.2 d hd
      exact (hg d hd).mpr ⟨j, by omega, j2⟩
  | m + 1, i, I, g, hi, hx, ho, hg => by
    have hD := Rel_D h
    have oi := hs.1 i (by omega)
    have nin : ∀ j, j < i → o j ≠ o i := fun j hj e => by
      have := hs.2.1 j i hj (by omega)
      rw [e] at this; omega
    refine wX7_settle_62 ?_
    rw [hx.1 26 rfl, hD.1, nI_clamp (by omega), ho i (by omega), nI_1]
    refine ⟨fun z => absurd z (nI_ge (by omega) (by omega)), fun _ => ⟨vp_in_nI (by omega) (by omega), ?_⟩⟩
    refine tX7_strike h hx oi ?_ (fun e he hc => ?_) (fun I2 h2 h30 => ?_)
    · cases q : g (o i) with
      | false => rfl
      | true =>
        obtain ⟨j, j1, j2⟩ := (hg _ oi).mp q
        exact absurd j2 (nin j j1)
    · rw [hg e he]
      constructor
      · rintro ⟨j, j1, j2⟩
        rw [← j2]; exact hs.2.1 j i j1 (by omega)
      · intro q
        obtain ⟨j, j1, j2⟩ := hs.2.2 e he
        refine ⟨j, ?_, j2⟩
        rcases Nat.lt_trichotomy j i with w | w | w
        · exact w
        · rw [← j2, w] at q; omega
        · have := hs.2.1 i j w j1
          rw [j2] at this; omega
    · refine strike_loop h hs k m (i + 1) I2 (adB g (o i)) (by omega) h2 (by rw [h30]; exact ho) (fun e he => ?_)
      by_cases w : e = o i
      · rw [w]; exact ⟨fun _ => ⟨i, by omega, rfl⟩, fun _ => adB_d⟩
      · rw [adB_o w, hg e he]
        constructor
        · rintro ⟨j, j1, j2⟩; exact ⟨j, by omega, j2⟩
        · rintro ⟨j, j1, j2⟩
          refine ⟨j, ?_, j2⟩
          by_cases v : j = i
          · rw [v] at j2; exact absurd j2.symm w
          · omega
theorem lu_X {I I2 : hI_} (h : agX I I2) (c : Nat) : lu I2 c = lu I c := by
  unfold lu endN foN bkN mN offB
  simp only [cK_X h, prc_X h]
theorem settle_loop {E : aE} {P : hI_ → hJ_ → Prop} {I0 : hI_} {J : hJ_} (h : Rel I0) (k : ∀ I2, SX I0 I2 (fun _ => true) → P I2 J) : ∀ (m c : Nat) (I : hI_), c + m = nC I0 → agX I0 I → (∀ j, j < c → I 33 j = nI (unN I0 j) ∧ I 34 j = nI (lu I0 j) - 1 ∧ I 35 j = -4) → HX7_settle_2 E P (nI c) I J
  | 0, c, I, hc, hag, q => by
    have hC := Rel_C h
    have hR := Rel_agX hag h
    refine wX7_settle_2 ?_
    rw [hag 24 rfl, hC.1]
    refine ⟨fun _ => ?_, fun z => absurd (nI_le (by omega) (by omega)) z⟩
    refine tX7_putInOrder hR (fun I2 o2 a1 a2 a3 => ?_)
    have hX := agX_tr hag (ag30_X a1)
    have a2' : srt I0 (nD I0) o2 := by
      unfold srt at a2 ⊢
      rw [nD_X hag] at a2
      simp only [kD_e (wI_X hag) (hag 73 rfl) (hag 82 rfl)] at a2
      exact a2
    rw [nD_X hag] at a3
    refine strike_loop h a2' k (nD I0) 0 I2 (fun _ => false) (by omega) ⟨hX, fun j hj => ?_, fun d hd h2 => by cases h2⟩ a3 (fun e he => ⟨fun z => absurd z (by decide), fun ⟨j, j1, _⟩ => absurd j1 (by omega)⟩)
    have un := un_ok h hj
    have t0 : tot I0 j (fun _ => false) = 0 := tot_none (fun _ _ _ => rfl)
    obtain ⟨b1, b2, b3⟩ := q j (by omega)
    rw [t0, if_neg (by omega), a1 33 (by omega), a1 34 (by omega), a1 35 (by omega)]
    exact ⟨b1, by omega, b2, b3⟩
  | m + 1, c, I, hc, hag, q => by
    have hC := Rel_C h
    have hR := Rel_agX hag h
    have hcc : c < nC I0 := by omega
    have un := un_ok h hcc
    have e4 : rat I 24 25 (nI c) 4 = nI (unN I0 c) := by
      refine (((Rel_call hR (by rw [nC_X hag]; exact hcc)).1 4 (by omega)).1).trans ?_
      rw [← un.1]; exact cK_X hag c 4
    have vc : vp_in (nI c) 12 := vp_in_nI (by omega) (by omega)
    refine wX7_settle_2 ?_
    rw [hag 24 rfl, hC.1, e4, nI_clamp (by omega), nI_1]
    have hX : agX I0 (upI I 33 c (nI (unN I0 c))) := agX_tr hag (agX_up rfl)
    have hR2 := Rel_agX hX h
    refine ⟨fun z => absurd z (nI_ge (by omega) (by omega)), fun _ => ⟨(Rel_rows hR).2.1, vc, ⟨hR2, c, by rw [nC_X hX]; exact hcc, rfl⟩, vc, vc, ?_⟩⟩
    rw [lu_X hX]
    refine settle_loop h k m (c + 1) _ (by omega) (agX_tr hX (agX_tr (agX_up rfl) (agX_up rfl))) (fun j hj => ?_)
    by_cases e : j = c
    · rw [e]
      refine ⟨?_, ?_, upI_same⟩
      · rw [upI_at, if_neg (by omega), upI_at, if_neg (by omega)]; exact upI_same
      · rw [upI_at, if_neg (by omega)]; exact upI_same
    · obtain ⟨b1, b2, b3⟩ := q j (by omega)
      refine ⟨?_, ?_, ?_⟩
      · rw [upI_at, if_neg (by omega), upI_at, if_neg (by omega), upI_at, if_neg (fun w => e w.2)]; exact b1
      · rw [upI_at, if_neg (by omega), upI_at, if_neg (fun w => e w.2), upI_at, if_neg (by omega)]; exact b2
      · rw [upI_at, if_neg (fun w => e w.2), upI_at, if_neg (by omega), upI_at, if_neg (by omega)]; exact b3
theorem tX7_settle {E : aE} {P : hI_ → hJ_ → Prop} {I : hI_} {J : hJ_} (h : Rel I) (k : ∀ I2, SX I I2 (fun _ => true) → P I2 J) : CallV E mX7_settle [.ref 29] SH I J P := wX7_settle (settle_loop h k (nC I) 0 I (by omega) agX_rf (fun j hj => by omega))
