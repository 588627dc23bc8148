/-- which deals came to nothing: at all, at a call that stood, after its taking back was known -/
noncomputable def emB (I : hI_) (w : Int32) (d : Nat) : Bool := decide (tk I d = 0) && (if w = 1 then stB I (nI (cD I d)) (nI (aD I d)) else if w = 2 then decide (arr (wI I) (qN I (cD I d)) (bkN I (cD I d)) (pD I d) ≤ mD I d) else true)
noncomputable def emS (I : hI_) (w : Int32) : Nat → Int32
  | 0 => 0
  | n + 1 => if emB I w n = true then emS I w n ||| (1 <<< (nI n &&& 31)) else emS I w n
theorem emS_s (I : hI_) (w : Int32) (n : Nat) : emS I w (n + 1) = if emB I w n = true then emS I w n ||| (1 <<< (nI n &&& 31)) else emS I w n := rfl
theorem emB_X {I I2 : hI_} (h : agX I I2) (w : Int32) (d : Nat) : emB I2 w d = emB I w d := by
  unfold emB
  rw [tk_X h, stB_X h, cD_X h, aD_X h, wI_X h, qN_X h, bkN_X h, pD_X h, mD_X h]
theorem emS_X {I I2 : hI_} (h : agX I I2) (w : Int32) : ∀ n, emS I2 w n = emS I w n
  | 0 => rfl
  | n + 1 => by rw [emS_s, emS_s, emB_X h, emS_X h w n]
theorem tX11_seen1 {E : aE} {P : Int32 → hI_ → hJ_ → Prop} {I : hI_} {J : hJ_} {c p : Nat} (h : Rel I) (hc : c < nC I) (hp : p < nP I) (k : ∀ I2, ag1 19 I I2 → P (orN (nI (arr (wI I) (qN I c) (bkN I c) p))) I2 J) : CallI E mX11_seen [.ref 0, .int (nI c), .int (nI p), .int 1] SH I J P := by
  have hpl := Rel_P h
  have hC := Rel_C h
  have hr := (Rel_rows h).2.1
  have hq := cK_q h hc
  have i1 : 0 ≤ nI c ∧ nI c ≤ I 24 3 - 1 := by
    rw [hC.1]
    refine ⟨nI_pos' (by omega), ?_⟩
    rw [Int32.le_iff_toInt_le, nIm1 (by omega), nI_toInt (by omega)]; omega
  have i2 : 0 ≤ nI p ∧ nI p ≤ I 3 6 - 1 := by
    rw [hpl.1]
    refine ⟨nI_pos' (by omega), ?_⟩
    rw [Int32.le_iff_toInt_le, nIm1 (by omega), nI_toInt (by omega)]; omega
  have e0 : rat I 24 25 (nI c) 0 = nI (qN I c) := (((Rel_call h hc).1 0 (by omega)).1).trans hq.1
  refine wX11_seen ⟨fun z => absurd i1 z, fun _ => ⟨fun z => absurd i2 z, fun _ => ⟨fun _ => ⟨hr, ?_⟩, fun z => absurd ⟨by decide, by decide⟩ z⟩⟩⟩
  rw [if_pos (show ¬ (1 : Int32) = 0 by decide), e0]
  rcases cK_back h hc with ⟨b1, -, b3⟩ | ⟨b0, b1, -, b3⟩
  · rw [b3]
    refine ⟨fun z => absurd z (by decide), fun _ => ?_⟩
    have := k I ag1_rf
    rw [b1, arr_never (Nat.le_refl _)] at this
    exact this
  · rw [b3]
    exact ⟨fun _ => ⟨hr, tX2_arrival h hq.2 hp (by omega) k⟩, fun w => absurd (nI_pos' (by omega)) w⟩
set_option maxHeartbeats 4000000 in
set_option maxRecDepth 20000 in
theorem wX11_isEmptyAs {E : aE} {P : Int32 → hI_ → hJ_ → Prop} {I : hI_} {J : hJ_} {a0 : Int32} {a1 : Int32} (k : (rok I 26 5 24) ∧ ((¬ a1 = (1 : Int32) → ((¬ a1 = (2 : Int32) → P (1 : Int32) I J) ∧ (a1 = (2 : Int32) → (rok I 26 5 24) ∧ CallI E mX11_seen [.ref 0, .int (rat I 26 27 a0 (1 : Int32)), .int (rat I 26 27 a0 (0 : Int32)), .int (1 : Int32)] SH I J (fun x5 I6 J7 => ((¬ (x5 < (0 : Int32))) → rok I6 26 5 24) ∧ P (b2i ((¬ (x5 < (0 : Int32))) ∧ (¬ ((rat I6 26 27 a0 (2 : Int32)) < x5)))) I6 J7)))) ∧ (a1 = (1 : Int32) → (rok I 26 5 24) ∧ (cOK I (rat I 26 27 a0 (1 : Int32))) ∧ P (b2i (stB I (rat I 26 27 a0 (1 : Int32)) (rat I 26 27 a0 (4 : Int32)) = true)) I J))) : CallI E mX11_isEmptyAs [.ref 0, .int a0, .int a1] SH I J P := by
  refine Call_of (L := [.ref 0, .int a0, .int a1, .retAddr 0, .retAddr 0]) ok_X11_isEmptyAs.1 rfl rfl ?_
  refine V_aload_n dX11_isEmptyAs_0 rfl ?_
  refine U_getR dX11_isEmptyAs_1 fl_X11_47 s_0 rfl ?_
  refine U_getR dX11_isEmptyAs_4 fl_X11_228 s_21 rfl ?_
  refine V_iload_n dX11_isEmptyAs_7 rfl ?_
  refine V_iconst (v := (1 : Int32)) dX11_isEmptyAs_8 rfl ?_
  obtain ⟨hp1, k⟩ := k
  refine U_callV1 [.int a0, .int (1 : Int32)] dX11_isEmptyAs_9 ov_X11_209 s_26 rfl ⟨rfl, rfl, rfl⟩ rfl rfl rfl (tX5_at s_26 s_27 (by decide) hp1 ?_)
  refine U_istore_n (L2 := [.ref 0, .int a0, .int a1, .int (rat I 26 27 a0 (1 : Int32)), .retAddr 0]) dX11_isEmptyAs_12 (by decide) rfl ?_
  refine V_iload_n dX11_isEmptyAs_13 rfl ?_
  refine V_iconst (v := (1 : Int32)) dX11_isEmptyAs_14 rfl ?_
  refine V_icmp_ne dX11_isEmptyAs_15 (fun c2 => ?_) (fun c2 => ?_)
  · have k := k.1 c2
    refine V_iload_n dX11_isEmptyAs_39 rfl ?_
    refine V_iconst (v := (2 : Int32)) dX11_isEmptyAs_40 rfl ?_
    refine V_icmp_ne dX11_isEmptyAs_41 (fun c3 => ?_) (fun c3 => ?_)
    · have k := k.1 c3
      refine V_iconst (v := (1 : Int32)) dX11_isEmptyAs_92 rfl ?_
      exact V_iret dX11_isEmptyAs_93 ⟨_, rfl, rfl⟩ rfl rfl ⟨_, _, _, rfl, rfl, k⟩
    · have k := k.2 c3
      refine V_aload_n dX11_isEmptyAs_44 rfl ?_
      refine V_iload_n dX11_isEmptyAs_45 rfl ?_
      refine V_aload_n dX11_isEmptyAs_46 rfl ?_
      refine U_getR dX11_isEmptyAs_47 fl_X11_47 s_0 rfl ?_
      refine U_getR dX11_isEmptyAs_50 fl_X11_228 s_21 rfl ?_
      refine V_iload_n dX11_isEmptyAs_53 rfl ?_
      refine V_iconst (v := (0 : Int32)) dX11_isEmptyAs_54 rfl ?_
      obtain ⟨hp4, k⟩ := k
      refine U_callV1 [.int a0, .int (0 : Int32)] dX11_isEmptyAs_55 ov_X11_209 s_26 rfl ⟨rfl, rfl, rfl⟩ rfl rfl rfl (tX5_at s_26 s_27 (by decide) hp4 ?_)
      refine V_iconst (v := (1 : Int32)) dX11_isEmptyAs_58 rfl ?_
      refine U_callV1 [.int (rat I 26 27 a0 (1 : Int32)), .int (rat I 26 27 a0 (0 : Int32)), .int (1 : Int32)] dX11_isEmptyAs_59 ov_X11_344 s_0 rfl ⟨rfl, rfl, rfl⟩ rfl rfl rfl (CallI_mono k (fun x5 I6 J7 k => ?_))
      refine U_istore (L2 := [.ref 0, .int a0, .int a1, .int (rat I 26 27 a0 (1 : Int32)), .int x5]) dX11_isEmptyAs_62 (by decide) rfl ?_
      refine V_iload dX11_isEmptyAs_64 rfl ?_
      obtain ⟨hc2011, k⟩ := k
      have key8 : ∀ (y2010 : Int32), y2010 = (b2i ((¬ (x5 < (0 : Int32))) ∧ (¬ ((rat I6 26 27 a0 (2 : Int32)) < x5)))) → V E mX11_isEmptyAs (kI SH P) 91 [.ref 0, .int a0, .int a1, .int (rat I 26 27 a0 (1 : Int32)), .int x5] [.int y2010] (SH, I6, J7) (0, 0) := by
        intro y2010 ey2010
        subst ey2010
        exact V_iret dX11_isEmptyAs_91 ⟨_, rfl, b2i_nar⟩ rfl rfl ⟨_, _, _, rfl, rfl, k⟩
      refine V_if_lt dX11_isEmptyAs_66 (fun c2012 => ?_) (fun c2012 => ?_)
      · refine V_iconst (v := (0 : Int32)) dX11_isEmptyAs_90 rfl ?_
        exact key8 _ ((b2i_0.mpr (fun q => q.1 c2012)).symm)
      · refine V_iload dX11_isEmptyAs_69 rfl ?_
        refine V_aload_n dX11_isEmptyAs_71 rfl ?_
        refine U_getR dX11_isEmptyAs_72 fl_X11_47 s_0 rfl ?_
        refine U_getR dX11_isEmptyAs_75 fl_X11_228 s_21 rfl ?_
        refine V_iload_n dX11_isEmptyAs_78 rfl ?_
        refine V_iconst (v := (2 : Int32)) dX11_isEmptyAs_79 rfl ?_
        have hp2009 := hc2011 c2012
        refine U_callV1 [.int a0, .int (2 : Int32)] dX11_isEmptyAs_80 ov_X11_209 s_26 rfl ⟨rfl, rfl, rfl⟩ rfl rfl rfl (tX5_at s_26 s_27 (by decide) hp2009 ?_)
        refine V_icmp_gt dX11_isEmptyAs_83 (fun c2013 => ?_) (fun c2013 => ?_)
        · refine V_iconst (v := (0 : Int32)) dX11_isEmptyAs_90 rfl ?_
          exact key8 _ ((b2i_0.mpr (fun q => (fun q => q c2013) q.2)).symm)
        · refine V_iconst (v := (1 : Int32)) dX11_isEmptyAs_86 rfl ?_
          refine V_goto dX11_isEmptyAs_87 ?_
          exact key8 _ ((b2i_1.mpr (⟨c2012, c2013⟩)).symm)
  · have k := k.2 c2
    refine V_aload_n dX11_isEmptyAs_18 rfl ?_
    refine U_getR dX11_isEmptyAs_19 fl_X11_47 s_0 rfl ?_
    refine V_iload_n dX11_isEmptyAs_22 rfl ?_
    refine V_aload_n dX11_isEmptyAs_23 rfl ?_
    refine U_getR dX11_isEmptyAs_24 fl_X11_47 s_0 rfl ?_
    refine U_getR dX11_isEmptyAs_27 fl_X11_228 s_21 rfl ?_
    refine V_iload_n dX11_isEmptyAs_30 rfl ?_
    refine V_iconst (v := (4 : Int32)) dX11_isEmptyAs_31 rfl ?_
    obtain ⟨hp2014, k⟩ := k
    refine U_callV1 [.int a0, .int (4 : Int32)] dX11_isEmptyAs_32 ov_X11_209 s_26 rfl ⟨rfl, rfl, rfl⟩ rfl rfl rfl (tX5_at s_26 s_27 (by decide) hp2014 ?_)
    obtain ⟨hp2015, k⟩ := k
    refine U_callV1 [.int (rat I 26 27 a0 (1 : Int32)), .int (rat I 26 27 a0 (4 : Int32))] dX11_isEmptyAs_35 ov_X11_224 s_21 rfl ⟨rfl, rfl, rfl⟩ rfl rfl rfl (tX1_isUp hp2015 ?_)
    exact V_iret dX11_isEmptyAs_38 ⟨_, rfl, b2i_nar⟩ rfl rfl ⟨_, _, _, rfl, rfl, k⟩
theorem tX11_isEmptyAs {E : aE} {P : Int32 → hI_ → hJ_ → Prop} {I : hI_} {J : hJ_} {d : Nat} {w : Int32} (h : Rel I) (hd : d < nD I) (h0 : tk I d = 0) (k : ∀ I2, ag1 19 I I2 → P (b2i (emB I w d = true)) I2 J) : CallI E mX11_isEmptyAs [.ref 0, .int (nI d), .int w] SH I J P := by
  have hr := (Rel_rows h).2.2
  have hC := Rel_C h
  have ok := deal_ok h hd
  obtain ⟨d0, d1, d2, d3, d4⟩ := deal_at h hd
  have e0 : decide (tk I d = 0) = true := decide_eq_true h0
  refine wX11_isEmptyAs ⟨hr, fun z1 => ⟨fun z2 => ?_, fun z2 => ⟨hr, ?_⟩⟩, fun z1 => ⟨hr, ?_, ?_⟩⟩
  · have := k I ag1_rf
    unfold emB at this
    rw [e0, if_neg z1, if_neg z2] at this
    exact this
  · rw [d1, d0]
    refine tX11_seen1 h ok.2.1.2 ok.1.2 (fun I2 hag => ⟨fun _ => (Rel_rows (Rel_agX (ag1_X rfl hag) h)).2.2, ?_⟩)
    have al := @arr_le (wI I) (qN I (cD I d)) (bkN I (cD I d)) (pD I d)
    have e2 := (deal_atX h (ag1_X (c := 19) rfl hag) hd).2.2.1
    rw [e2]
    have fin := k I2 hag
    have eb : b2i (emB I w d = true) = b2i ((¬ (orN (nI (arr (wI I) (qN I (cD I d)) (bkN I (cD I d)) (pD I d))) < 0)) ∧ (¬ (nI (mD I d) < orN (nI (arr (wI I) (qN I (cD I d)) (bkN I (cD I d)) (pD I d)))))) := by
      refine b2i_congr ?_
      unfold emB orN
      rw [e0, if_neg z1, if_pos z2, Bool.true_and, decide_eq_true_iff]
      by_cases y : 10000 ≤ arr (wI I) (qN I (cD I d)) (bkN I (cD I d)) (pD I d)
      · rw [if_pos (show (10000 : Int32) ≤ nI _ from nI_le (a := 10000) y (by omega))]
        exact ⟨fun v => by omega, fun v => absurd (by decide) v.1⟩
      · rw [if_neg (show ¬ (10000 : Int32) ≤ nI _ from nI_ge (b := 10000) (by omega) (by omega)), nI_ltJ (by omega) (by omega)]
        exact ⟨fun v => ⟨nI_pos (by omega), by omega⟩, fun v => by omega⟩
    rw [eb] at fin
    exact fin
  · rw [d1]; exact ⟨h, _, ok.2.1.2, rfl⟩
  · rw [d1, d4]
    have := k I ag1_rf
    unfold emB at this
    rw [e0, if_pos z1, Bool.true_and] at this
    exact this
def HX11_empty_22 (E : aE) (P : Int32 → hI_ → hJ_ → Prop) (v1 : Int32) (v2 : Int32) (v3 : Int32) (I : hI_) (J : hJ_) : Prop := V E mX11_empty (kI SH P) 22 [.ref 0, .int v1, .int v2, .int v3] [] (SH, I, J) (0, 0)
set_option maxHeartbeats 4000000 in
set_option maxRecDepth 20000 in
theorem wX11_empty {E : aE} {P : Int32 → hI_ → hJ_ → Prop} {I : hI_} {J : hJ_} {a0 : Int32} (k : ((((0 : Int32) ≤ a0 ∧ a0 ≤ (2 : Int32)) → CallV E mX7_settle [.ref 29] SH I J (fun I3 J4 => HX11_empty_22 E P a0 (0 : Int32) (0 : Int32) I3 J4)) ∧ (¬ (((0 : Int32) ≤ a0 ∧ a0 ≤ (2 : Int32))) → P (-1 : Int32) I J))) : CallI E mX11_empty [.ref 0, .int a0] SH I J P := by
  refine Call_of (L := [.ref 0, .int a0, .retAddr 0, .retAddr 0]) ok_X11_empty.1 rfl rfl ?_
  refine V_iload_n dX11_empty_0 rfl ?_
  refine V_iconst (v := (0 : Int32)) dX11_empty_1 rfl ?_
  refine V_iconst (v := (2 : Int32)) dX11_empty_2 rfl ?_
  refine U_callS1 [.int a0, .int (0 : Int32), .int (2 : Int32)] dX11_empty_3 os_X11_104 ⟨rfl, rfl, rfl⟩ rfl rfl rfl (tX11_within ?_)
  refine U_ifb_ne dX11_empty_6 (fun c1 => ?_) (fun c1 => ?_)
  · have k := k.1 c1
    refine V_aload_n dX11_empty_11 rfl ?_
    refine U_getR dX11_empty_12 fl_X11_60 s_0 rfl ?_
    refine U_callV0 [] dX11_empty_15 ov_X11_215 s_29 rfl ⟨rfl, rfl, rfl⟩ rfl rfl rfl (CallV_mono k (fun I3 J4 k => ?_))
    refine V_iconst (v := (0 : Int32)) dX11_empty_18 rfl ?_
    refine U_istore_n (L2 := [.ref 0, .int a0, .int (0 : Int32), .retAddr 0]) dX11_empty_19 (by decide) rfl ?_
    refine V_iconst (v := (0 : Int32)) dX11_empty_20 rfl ?_
    refine U_istore_n (L2 := [.ref 0, .int a0, .int (0 : Int32), .int (0 : Int32)]) dX11_empty_21 (by decide) rfl ?_
    exact k
  · have k := k.2 c1
    refine V_iconst (v := (-1 : Int32)) dX11_empty_9 rfl ?_
    exact V_iret dX11_empty_10 ⟨_, rfl, rfl⟩ rfl rfl ⟨_, _, _, rfl, rfl, k⟩
set_option maxHeartbeats 4000000 in
set_option maxRecDepth 20000 in
theorem wX11_empty_22 {E : aE} {P : Int32 → hI_ → hJ_ → Prop} {I : hI_} {J : hJ_} {v1 : Int32} {v2 : Int32} {v3 : Int32} (k : (((I 26 3) ≤ v3 → P v2 I J) ∧ (¬ ((I 26 3) ≤ v3) → (vp_in v3 24) ∧ ((¬ (I 31 v3.toNatClampNeg) = (0 : Int32) → HX11_empty_22 E P v1 v2 (v3 + (1 : Int32)) I J) ∧ ((I 31 v3.toNatClampNeg) = (0 : Int32) → CallI E mX11_isEmptyAs [.ref 0, .int v3, .int v1] SH I J (fun x4 I5 J6 => HX11_empty_22 E P v1 (if x4 = (0 : Int32) then v2 else (v2 ||| ((1 : Int32) <<< (v3 &&& 31)))) (v3 + (1 : Int32)) I5 J6)))))) : HX11_empty_22 E P v1 v2 v3 I J := by
  show V E mX11_empty (kI SH P) 22 [.ref 0, .int v1, .int v2, .int v3] [] (SH, I, J) (0, 0)
  refine V_iload_n dX11_empty_22 rfl ?_
  refine V_aload_n dX11_empty_23 rfl ?_
  refine U_getR dX11_empty_24 fl_X11_47 s_0 rfl ?_
  refine U_getR dX11_empty_27 fl_X11_228 s_21 rfl ?_
  refine U_getI dX11_empty_30 fl_X11_189 s_26 rfl ?_
  refine V_icmp_ge dX11_empty_33 (fun c1 => ?_) (fun c1 => ?_)
  · have k := k.1 c1
    refine V_iload_n dX11_empty_69 rfl ?_
    exact V_iret dX11_empty_70 ⟨_, rfl, rfl⟩ rfl rfl ⟨_, _, _, rfl, rfl, k⟩
  · have k := k.2 c1
    refine V_aload_n dX11_empty_36 rfl ?_
    refine U_getR dX11_empty_37 fl_X11_60 s_0 rfl ?_
    refine U_getR dX11_empty_40 fl_X11_234 s_29 rfl ?_
    refine V_iload_n dX11_empty_43 rfl ?_
    obtain ⟨hb2, k⟩ := k
    refine U_iald dX11_empty_44 s_31 hb2 ?_
    refine V_if_ne dX11_empty_45 (fun c3 => ?_) (fun c3 => ?_)
    · have k := k.1 c3
      refine U_iinc (v := v3 + (1 : Int32)) (L2 := [.ref 0, .int v1, .int v2, .int (v3 + (1 : Int32))]) dX11_empty_63 (by decide) rfl rfl rfl ?_
      refine V_goto dX11_empty_66 ?_
      exact k
    · have k := k.2 c3
      refine V_aload_n dX11_empty_48 rfl ?_
      refine V_iload_n dX11_empty_49 rfl ?_
      refine V_iload_n dX11_empty_50 rfl ?_
      refine U_callV1 [.int v3, .int v1] dX11_empty_51 ov_X11_240 s_0 rfl ⟨rfl, rfl, rfl⟩ rfl rfl rfl (CallI_mono k (fun x4 I5 J6 k => ?_))
      have key7 : ∀ (y2008 : Int32), y2008 = (if x4 = (0 : Int32) then v2 else (v2 ||| ((1 : Int32) <<< (v3 &&& 31)))) → V E mX11_empty (kI SH P) 63 [.ref 0, .int v1, .int y2008, .int v3] [] (SH, I5, J6) (0, 0) := by
        intro y2008 ey2008
        subst ey2008
        refine U_iinc (v := v3 + (1 : Int32)) (L2 := [.ref 0, .int v1, .int (if x4 = (0 : Int32) then v2 else (v2 ||| ((1 : Int32) <<< (v3 &&& 31)))), .int (v3 + (1 : Int32))]) dX11_empty_63 (by decide) rfl rfl rfl ?_
        refine V_goto dX11_empty_66 ?_
        exact k
      refine V_if_eq dX11_empty_54 (fun c2009 => ?_) (fun c2009 => ?_)
      · exact key7 _ (by rw [if_pos c2009])
      · refine V_iload_n dX11_empty_57 rfl ?_
        refine V_iconst (v := (1 : Int32)) dX11_empty_58 rfl ?_
        refine V_iload_n dX11_empty_59 rfl ?_
        refine V_ishl dX11_empty_60 ?_
        refine V_ior dX11_empty_61 ?_
        refine U_istore_n (L2 := [.ref 0, .int v1, .int (v2 ||| ((1 : Int32) <<< (v3 &&& 31))), .int v3]) dX11_empty_62 (by decide) rfl ?_
        exact key7 _ (by rw [if_neg c2009])
theorem SX_ag {I0 I I2 : hI_} {g : Nat → Bool} (hs : SX I0 I g) (h : ag1 19 I I2) : SX I0 I2 g := by
  refine ⟨agX_tr hs.1 (ag1_X rfl h), ?_, ?_⟩
  · rw [h 33 (by omega), h 34 (by omega), h 35 (by omega)]; exact hs.2.1
  · rw [h 31 (by omega)]; exact hs.2.2
theorem SM_ag {I0 I I2 : hI_} {g : Nat → Bool} (hs : SM I0 I g) (h : ag1 81 I I2) : SM I0 I2 g := by
  refine ⟨agM_tr hs.1 (ag1_M rfl (by omega) h), ?_, ?_⟩
  · rw [h 83 (by omega), h 85 (by omega)]; exact hs.2.1
  · rw [h 84 (by omega)]; exact hs.2.2
theorem emX_loop {E : aE} {P : Int32 → hI_ → hJ_ → Prop} {I0 : hI_} {J : hJ_} {w : Int32} (h : Rel I0) (k : ∀ I2, agX I0 I2 → P (emS I0 w (nD I0)) I2 J) : ∀ (m n : Nat) (I : hI_), n + m = nD I0 → SX I0 I (fun _ => true) → HX11_empty_22 E P w (emS I0 w n) (nI n) I J
  | 0, n, I, hn, hs => by
    have hD := Rel_D h
    have e : n = nD I0 := by omega
    refine wX11_empty_22 ?_
    rw [hs.1 26 rfl, hD.1, e]
    exact ⟨fun _ => k I hs.1, fun z => absurd (nI_le (Nat.le_refl _) (by omega)) z⟩
  | m + 1, n, I, hn, hs => by
    have hD := Rel_D h
    have hnn : n < nD I0 := by omega
    have hR := Rel_agX hs.1 h
    have tl := tk_le h hnn
    have rc := fun I2 h2 => emX_loop (E := E) h k m (n + 1) I2 (by omega) h2
    rw [emS_s] at rc
    refine wX11_empty_22 ?_
    rw [hs.1 26 rfl, hD.1, nI_clamp (by omega), hs.2.2 n hnn rfl, nI_1]
    refine ⟨fun z => absurd z (nI_ge (by omega) (by omega)), fun _ => ⟨vp_in_nI (by omega) (by omega), fun z => ?_, fun z => ?_⟩⟩
    · have : ¬ emB I0 w n = true := fun y => by
        unfold emB at y
        rw [Bool.and_eq_true] at y
        have := of_decide_eq_true y.1
        rw [this] at z; exact z rfl
      rw [if_neg this] at rc
      exact rc I hs
    · have z : tk I0 n = 0 := (nI_eqI (b := 0) (by omega) (by omega)).mp z
      refine tX11_isEmptyAs hR (by rw [nD_X hs.1]; exact hnn) (by rw [tk_X hs.1]; exact z) (fun I2 hag => ?_)
      rw [emB_X hs.1]
      by_cases y : emB I0 w n = true
      · have e : b2i (emB I0 w n = true) = 1 := if_pos y
        rw [e, if_neg (by decide)]
        rw [if_pos y] at rc
        exact rc I2 (SX_ag hs hag)
      · have e : b2i (emB I0 w n = true) = 0 := if_neg y
        rw [e, if_pos rfl]
        rw [if_neg y] at rc
        exact rc I2 (SX_ag hs hag)
def HX12_empty_22 (E : aE) (P : Int32 → hI_ → hJ_ → Prop) (v1 : Int32) (v2 : Int32) (v3 : Int32) (I : hI_) (J : hJ_) : Prop := V E mX12_empty (kI SH P) 22 [.ref 68, .int v1, .int v2, .int v3, .retAddr 0, .retAddr 0] [] (SH, I, J) (0, 0)
set_option maxHeartbeats 4000000 in
set_option maxRecDepth 20000 in
theorem wX12_empty {E : aE} {P : Int32 → hI_ → hJ_ → Prop} {I : hI_} {J : hJ_} {a0 : Int32} (k : ((((0 : Int32) ≤ a0 ∧ a0 ≤ (2 : Int32)) → CallV E mX12_layStruck [.ref 68] SH I J (fun I3 J4 => HX12_empty_22 E P a0 (0 : Int32) (0 : Int32) I3 J4)) ∧ (¬ (((0 : Int32) ≤ a0 ∧ a0 ≤ (2 : Int32))) → P (-1 : Int32) I J))) : CallI E mX12_empty [.ref 68, .int a0] SH I J P := by
  refine Call_of (L := [.ref 68, .int a0, .retAddr 0, .retAddr 0, .retAddr 0, .retAddr 0]) ok_X12_empty.1 rfl rfl ?_
  refine V_iload_n dX12_empty_0 rfl ?_
  refine V_i2l dX12_empty_1 ?_
  refine V_lconst (v := (0 : Int64)) dX12_empty_2 rfl ?_
  refine V_ldc2_w (v := (2 : Int64)) dX12_empty_3 (gt_6 39 rfl rfl) ?_
  refine U_callS1 [.long a0.toInt64, .long (0 : Int64), .long (2 : Int64)] dX12_empty_6 os_X12_91 ⟨rfl, rfl, rfl⟩ rfl rfl rfl (tX12_in32 (v := a0) (lo := (0 : Int32)) (hi := (2 : Int32)) rfl (by decide) (by decide) ?_)
  refine U_ifb_ne dX12_empty_9 (fun c1 => ?_) (fun c1 => ?_)
  · have k := k.1 c1
    refine V_aload_n dX12_empty_14 rfl ?_
    refine U_callV0 [] dX12_empty_15 ov_X12_218 s_68 rfl ⟨rfl, rfl, rfl⟩ rfl rfl rfl (CallV_mono k (fun I3 J4 k => ?_))
    refine V_iconst (v := (0 : Int32)) dX12_empty_18 rfl ?_
    refine U_istore_n (L2 := [.ref 68, .int a0, .int (0 : Int32), .retAddr 0, .retAddr 0, .retAddr 0]) dX12_empty_19 (by decide) rfl ?_
    refine V_iconst (v := (0 : Int32)) dX12_empty_20 rfl ?_
    refine U_istore_n (L2 := [.ref 68, .int a0, .int (0 : Int32), .int (0 : Int32), .retAddr 0, .retAddr 0]) dX12_empty_21 (by decide) rfl ?_
    exact k
  · have k := k.2 c1
    refine V_iconst (v := (-1 : Int32)) dX12_empty_12 rfl ?_
    exact V_iret dX12_empty_13 ⟨_, rfl, rfl⟩ rfl rfl ⟨_, _, _, rfl, rfl, k⟩
set_option maxHeartbeats 4000000 in
set_option maxRecDepth 20000 in
theorem wX12_empty_22 {E : aE} {P : Int32 → hI_ → hJ_ → Prop} {I : hI_} {J : hJ_} {v1 : Int32} {v2 : Int32} {v3 : Int32} (k : (((I 82 282) ≤ v3 → P v2 I J) ∧ (¬ ((I 82 282) ≤ v3) → (inD v3 (1 : Int32)) ∧ (vp_in v3 24) ∧ ((¬ v1 = (1 : Int32) → ((¬ v1 = (2 : Int32) → HX12_empty_22 E P v1 (v2 ||| (if ¬ ((I 84 v3.toNatClampNeg) = (0 : Int32)) then (0 : Int32) else ((1 : Int32) <<< (v3 &&& 31)))) (v3 + (1 : Int32)) I J) ∧ (v1 = (2 : Int32) → ((¬ ((I 84 v3.toNatClampNeg) = (0 : Int32)) → HX12_empty_22 E P v1 (v2 ||| (0 : Int32)) (v3 + (1 : Int32)) I J) ∧ (((I 84 v3.toNatClampNeg) = (0 : Int32)) → (inD v3 (0 : Int32)) ∧ CallI E mX12_seenBy [.ref 68, .int (snt I v3 (1 : Int32)), .int (snt I v3 (0 : Int32)), .int (1 : Int32)] SH I J (fun x4013 I4014 J4015 => (inD v3 (2 : Int32)) ∧ HX12_empty_22 E P v1 (v2 ||| (if ¬ (¬ ((snt I4014 v3 (2 : Int32)) < x4013)) then (0 : Int32) else ((1 : Int32) <<< (v3 &&& 31)))) (v3 + (1 : Int32)) I4014 J4015)))))) ∧ (v1 = (1 : Int32) → ((((I 84 v3.toNatClampNeg) = (0 : Int32))) → vp_in v3 24) ∧ ((((I 84 v3.toNatClampNeg) = (0 : Int32))) → (¬ ((10000 : Int32) ≤ (I 83 v3.toNatClampNeg))) → vp_in v3 24) ∧ ((((I 84 v3.toNatClampNeg) = (0 : Int32))) → (¬ ((10000 : Int32) ≤ (I 83 v3.toNatClampNeg))) → cOK I (snt I v3 (1 : Int32))) ∧ HX12_empty_22 E P v1 (v2 ||| (if ¬ (((I 84 v3.toNatClampNeg) = (0 : Int32)) ∧ ((¬ ((10000 : Int32) ≤ (I 83 v3.toNatClampNeg))) ∧ (stB I (snt I v3 (1 : Int32)) (I 83 v3.toNatClampNeg) = true))) then (0 : Int32) else ((1 : Int32) <<< (v3 &&& 31)))) (v3 + (1 : Int32)) I J))))) : HX12_empty_22 E P v1 v2 v3 I J := by
  show V E mX12_empty (kI SH P) 22 [.ref 68, .int v1, .int v2, .int v3, .retAddr 0, .retAddr 0] [] (SH, I, J) (0, 0)
  refine V_iload_n dX12_empty_22 rfl ?_
  refine V_aload_n dX12_empty_23 rfl ?_
  refine U_callV1 [] dX12_empty_24 ov_X12_221 s_68 rfl ⟨rfl, rfl, rfl⟩ rfl rfl rfl (tX12_deals ?_)
  refine V_icmp_ge dX12_empty_27 (fun c1 => ?_) (fun c1 => ?_)
  · have k := k.1 c1
    refine V_iload_n dX12_empty_161 rfl ?_
    exact V_iret dX12_empty_162 ⟨_, rfl, rfl⟩ rfl rfl ⟨_, _, _, rfl, rfl, k⟩
  · have k := k.2 c1
    refine V_aload_n dX12_empty_30 rfl ?_
    refine V_iload_n dX12_empty_31 rfl ?_
    refine V_iconst (v := (1 : Int32)) dX12_empty_32 rfl ?_
    obtain ⟨hp2, k⟩ := k
    refine U_callV1 [.int v3, .int (1 : Int32)] dX12_empty_33 ov_X12_224 s_68 rfl ⟨rfl, rfl, rfl⟩ rfl rfl rfl (tX12_sent4 hp2 ?_)
    refine U_istore (L2 := [.ref 68, .int v1, .int v2, .int v3, .int (snt I v3 (1 : Int32)), .retAddr 0]) dX12_empty_36 (by decide) rfl ?_
    refine V_aload_n dX12_empty_38 rfl ?_
    refine U_getR dX12_empty_39 fl_X12_55 s_68 rfl ?_
    refine V_iload_n dX12_empty_42 rfl ?_
    obtain ⟨hb3, k⟩ := k
    refine U_iald dX12_empty_43 s_84 hb3 ?_
    have key4 : ∀ (y2005 : Int32), y2005 = (b2i ((I 84 v3.toNatClampNeg) = (0 : Int32))) → V E mX12_empty (kI SH P) 52 [.ref 68, .int v1, .int v2, .int v3, .int (snt I v3 (1 : Int32)), .retAddr 0] [.int y2005] (SH, I, J) (0, 0) := by
      intro y2005 ey2005
      subst ey2005
      refine U_istore (L2 := [.ref 68, .int v1, .int v2, .int v3, .int (snt I v3 (1 : Int32)), .int (b2i ((I 84 v3.toNatClampNeg) = (0 : Int32)))]) dX12_empty_52 (by decide) rfl ?_
      refine V_iload_n dX12_empty_54 rfl ?_
      refine V_iconst (v := (1 : Int32)) dX12_empty_55 rfl ?_
      refine V_icmp_ne dX12_empty_56 (fun c2006 => ?_) (fun c2006 => ?_)
      · have k := k.1 c2006
        refine V_iload_n dX12_empty_101 rfl ?_
        refine V_iconst (v := (2 : Int32)) dX12_empty_102 rfl ?_
        refine V_icmp_ne dX12_empty_103 (fun c2007 => ?_) (fun c2007 => ?_)
        · have k := k.1 c2007
          refine V_iload_n dX12_empty_140 rfl ?_
          refine V_iload dX12_empty_141 rfl ?_
          have key2008 : ∀ (y4009 : Int32), y4009 = (if ¬ ((I 84 v3.toNatClampNeg) = (0 : Int32)) then (0 : Int32) else ((1 : Int32) <<< (v3 &&& 31))) → V E mX12_empty (kI SH P) 153 [.ref 68, .int v1, .int v2, .int v3, .int (snt I v3 (1 : Int32)), .int (b2i ((I 84 v3.toNatClampNeg) = (0 : Int32)))] [.int y4009, .int v2] (SH, I, J) (0, 0) := by
            intro y4009 ey4009
            subst ey4009
            refine V_ior dX12_empty_153 ?_
            refine U_istore_n (L2 := [.ref 68, .int v1, .int (v2 ||| (if ¬ ((I 84 v3.toNatClampNeg) = (0 : Int32)) then (0 : Int32) else ((1 : Int32) <<< (v3 &&& 31)))), .int v3, .int (snt I v3 (1 : Int32)), .int (b2i ((I 84 v3.toNatClampNeg) = (0 : Int32)))]) dX12_empty_154 (by decide) rfl ?_
            refine U_iinc (v := v3 + (1 : Int32)) (L2 := [.ref 68, .int v1, .int (v2 ||| (if ¬ ((I 84 v3.toNatClampNeg) = (0 : Int32)) then (0 : Int32) else ((1 : Int32) <<< (v3 &&& 31)))), .int (v3 + (1 : Int32)), .int (snt I v3 (1 : Int32)), .int (b2i ((I 84 v3.toNatClampNeg) = (0 : Int32)))]) dX12_empty_155 (by decide) rfl rfl rfl ?_
            refine V_goto dX12_empty_158 ?_
            exact V_wk (wk_eq (wk_eq (wk_eq (wk_eq (wk_j (wk_j (wk_nil))))))) k
          refine U_ifb_eq dX12_empty_143 (fun c4010 => ?_) (fun c4010 => ?_)
          · refine V_iconst (v := (0 : Int32)) dX12_empty_152 rfl ?_
            exact key2008 _ (by rw [if_pos c4010])
          · refine V_iconst (v := (1 : Int32)) dX12_empty_146 rfl ?_
            refine V_iload_n dX12_empty_147 rfl ?_
            refine V_ishl dX12_empty_148 ?_
            refine V_goto dX12_empty_149 ?_
            exact key2008 _ (by rw [if_neg (not_not_intro c4010)])
        · have k := k.2 c2007
          refine V_iload dX12_empty_106 rfl ?_
          refine U_ifb_eq dX12_empty_108 (fun c4011 => ?_) (fun c4011 => ?_)
          · have k := k.1 c4011
            refine V_iconst (v := (0 : Int32)) dX12_empty_137 rfl ?_
            refine U_istore (L2 := [.ref 68, .int v1, .int v2, .int v3, .int (snt I v3 (1 : Int32)), .int (0 : Int32)]) dX12_empty_138 (by decide) rfl ?_
            refine V_iload_n dX12_empty_140 rfl ?_
            refine V_iload dX12_empty_141 rfl ?_
            refine V_if_eq dX12_empty_143 (fun _ => ?_) (fun q => absurd q (by decide))
            refine V_iconst (v := (0 : Int32)) dX12_empty_152 rfl ?_
            refine V_ior dX12_empty_153 ?_
            refine U_istore_n (L2 := [.ref 68, .int v1, .int (v2 ||| (0 : Int32)), .int v3, .int (snt I v3 (1 : Int32)), .int (0 : Int32)]) dX12_empty_154 (by decide) rfl ?_
            refine U_iinc (v := v3 + (1 : Int32)) (L2 := [.ref 68, .int v1, .int (v2 ||| (0 : Int32)), .int (v3 + (1 : Int32)), .int (snt I v3 (1 : Int32)), .int (0 : Int32)]) dX12_empty_155 (by decide) rfl rfl rfl ?_
            refine V_goto dX12_empty_158 ?_
            exact V_wk (wk_eq (wk_eq (wk_eq (wk_eq (wk_j (wk_j (wk_nil))))))) k
          · have k := k.2 c4011
            refine V_aload_n dX12_empty_111 rfl ?_
            refine V_iload dX12_empty_112 rfl ?_
            refine V_aload_n dX12_empty_114 rfl ?_
            refine V_iload_n dX12_empty_115 rfl ?_
            refine V_iconst (v := (0 : Int32)) dX12_empty_116 rfl ?_
            obtain ⟨hp4012, k⟩ := k
            refine U_callV1 [.int v3, .int (0 : Int32)] dX12_empty_117 ov_X12_224 s_68 rfl ⟨rfl, rfl, rfl⟩ rfl rfl rfl (tX12_sent4 hp4012 ?_)
            refine V_iconst (v := (1 : Int32)) dX12_empty_120 rfl ?_
            refine U_callV1 [.int (snt I v3 (1 : Int32)), .int (snt I v3 (0 : Int32)), .int (1 : Int32)] dX12_empty_121 ov_X12_231 s_68 rfl ⟨rfl, rfl, rfl⟩ rfl rfl rfl (CallI_mono k (fun x4013 I4014 J4015 k => ?_))
            refine V_aload_n dX12_empty_124 rfl ?_
            refine V_iload_n dX12_empty_125 rfl ?_
            refine V_iconst (v := (2 : Int32)) dX12_empty_126 rfl ?_
            obtain ⟨hp4016, k⟩ := k
            refine U_callV1 [.int v3, .int (2 : Int32)] dX12_empty_127 ov_X12_224 s_68 rfl ⟨rfl, rfl, rfl⟩ rfl rfl rfl (tX12_sent4 hp4016 ?_)
            have key4017 : ∀ (y6018 : Int32), y6018 = (b2i (¬ ((snt I4014 v3 (2 : Int32)) < x4013))) → V E mX12_empty (kI SH P) 138 [.ref 68, .int v1, .int v2, .int v3, .int (snt I v3 (1 : Int32)), .int (b2i ((I 84 v3.toNatClampNeg) = (0 : Int32)))] [.int y6018] (SH, I4014, J4015) (0, 0) := by
              intro y6018 ey6018
              subst ey6018
              refine U_istore (L2 := [.ref 68, .int v1, .int v2, .int v3, .int (snt I v3 (1 : Int32)), .int (b2i (¬ ((snt I4014 v3 (2 : Int32)) < x4013)))]) dX12_empty_138 (by decide) rfl ?_
              refine V_iload_n dX12_empty_140 rfl ?_
              refine V_iload dX12_empty_141 rfl ?_
              have key6019 : ∀ (y8020 : Int32), y8020 = (if ¬ (¬ ((snt I4014 v3 (2 : Int32)) < x4013)) then (0 : Int32) else ((1 : Int32) <<< (v3 &&& 31))) → V E mX12_empty (kI SH P) 153 [.ref 68, .int v1, .int v2, .int v3, .int (snt I v3 (1 : Int32)), .int (b2i (¬ ((snt I4014 v3 (2 : Int32)) < x4013)))] [.int y8020, .int v2] (SH, I4014, J4015) (0, 0) := by
                intro y8020 ey8020
                subst ey8020
                refine V_ior dX12_empty_153 ?_
                refine U_istore_n (L2 := [.ref 68, .int v1, .int (v2 ||| (if ¬ (¬ ((snt I4014 v3 (2 : Int32)) < x4013)) then (0 : Int32) else ((1 : Int32) <<< (v3 &&& 31)))), .int v3, .int (snt I v3 (1 : Int32)), .int (b2i (¬ ((snt I4014 v3 (2 : Int32)) < x4013)))]) dX12_empty_154 (by decide) rfl ?_
                refine U_iinc (v := v3 + (1 : Int32)) (L2 := [.ref 68, .int v1, .int (v2 ||| (if ¬ (¬ ((snt I4014 v3 (2 : Int32)) < x4013)) then (0 : Int32) else ((1 : Int32) <<< (v3 &&& 31)))), .int (v3 + (1 : Int32)), .int (snt I v3 (1 : Int32)), .int (b2i (¬ ((snt I4014 v3 (2 : Int32)) < x4013)))]) dX12_empty_155 (by decide) rfl rfl rfl ?_
                refine V_goto dX12_empty_158 ?_
                exact V_wk (wk_eq (wk_eq (wk_eq (wk_eq (wk_j (wk_j (wk_nil))))))) k
              refine U_ifb_eq dX12_empty_143 (fun c8021 => ?_) (fun c8021 => ?_)
              · refine V_iconst (v := (0 : Int32)) dX12_empty_152 rfl ?_
                exact key6019 _ (by rw [if_pos c8021])
              · refine V_iconst (v := (1 : Int32)) dX12_empty_146 rfl ?_
                refine V_iload_n dX12_empty_147 rfl ?_
                refine V_ishl dX12_empty_148 ?_
                refine V_goto dX12_empty_149 ?_
                exact key6019 _ (by rw [if_neg (not_not_intro c8021)])
            refine V_icmp_gt dX12_empty_130 (fun c8022 => ?_) (fun c8022 => ?_)
            · refine V_iconst (v := (0 : Int32)) dX12_empty_137 rfl ?_
              exact key4017 _ ((b2i_0.mpr (fun q => q c8022)).symm)
            · refine V_iconst (v := (1 : Int32)) dX12_empty_133 rfl ?_
              refine V_goto dX12_empty_134 ?_
              exact key4017 _ ((b2i_1.mpr (c8022)).symm)
      · have k := k.2 c2006
        refine V_iload dX12_empty_59 rfl ?_
        obtain ⟨hc10028, hc10029, hc10030, k⟩ := k
        have key8023 : ∀ (y10027 : Int32), y10027 = (b2i (((I 84 v3.toNatClampNeg) = (0 : Int32)) ∧ ((¬ ((10000 : Int32) ≤ (I 83 v3.toNatClampNeg))) ∧ (stB I (snt I v3 (1 : Int32)) (I 83 v3.toNatClampNeg) = true)))) → V E mX12_empty (kI SH P) 96 [.ref 68, .int v1, .int v2, .int v3, .int (snt I v3 (1 : Int32)), .int (b2i ((I 84 v3.toNatClampNeg) = (0 : Int32)))] [.int y10027] (SH, I, J) (0, 0) := by
          intro y10027 ey10027
          subst ey10027
          refine U_istore (L2 := [.ref 68, .int v1, .int v2, .int v3, .int (snt I v3 (1 : Int32)), .int (b2i (((I 84 v3.toNatClampNeg) = (0 : Int32)) ∧ ((¬ ((10000 : Int32) ≤ (I 83 v3.toNatClampNeg))) ∧ (stB I (snt I v3 (1 : Int32)) (I 83 v3.toNatClampNeg) = true))))]) dX12_empty_96 (by decide) rfl ?_
          refine V_goto dX12_empty_98 ?_
          refine V_iload_n dX12_empty_140 rfl ?_
          refine V_iload dX12_empty_141 rfl ?_
          have key10031 : ∀ (y12032 : Int32), y12032 = (if ¬ (((I 84 v3.toNatClampNeg) = (0 : Int32)) ∧ ((¬ ((10000 : Int32) ≤ (I 83 v3.toNatClampNeg))) ∧ (stB I (snt I v3 (1 : Int32)) (I 83 v3.toNatClampNeg) = true))) then (0 : Int32) else ((1 : Int32) <<< (v3 &&& 31))) → V E mX12_empty (kI SH P) 153 [.ref 68, .int v1, .int v2, .int v3, .int (snt I v3 (1 : Int32)), .int (b2i (((I 84 v3.toNatClampNeg) = (0 : Int32)) ∧ ((¬ ((10000 : Int32) ≤ (I 83 v3.toNatClampNeg))) ∧ (stB I (snt I v3 (1 : Int32)) (I 83 v3.toNatClampNeg) = true))))] [.int y12032, .int v2] (SH, I, J) (0, 0) := by
            intro y12032 ey12032
            subst ey12032
            refine V_ior dX12_empty_153 ?_
            refine U_istore_n (L2 := [.ref 68, .int v1, .int (v2 ||| (if ¬ (((I 84 v3.toNatClampNeg) = (0 : Int32)) ∧ ((¬ ((10000 : Int32) ≤ (I 83 v3.toNatClampNeg))) ∧ (stB I (snt I v3 (1 : Int32)) (I 83 v3.toNatClampNeg) = true))) then (0 : Int32) else ((1 : Int32) <<< (v3 &&& 31)))), .int v3, .int (snt I v3 (1 : Int32)), .int (b2i (((I 84 v3.toNatClampNeg) = (0 : Int32)) ∧ ((¬ ((10000 : Int32) ≤ (I 83 v3.toNatClampNeg))) ∧ (stB I (snt I v3 (1 : Int32)) (I 83 v3.toNatClampNeg) = true))))]) dX12_empty_154 (by decide) rfl ?_
            refine U_iinc (v := v3 + (1 : Int32)) (L2 := [.ref 68, .int v1, .int (v2 ||| (if ¬ (((I 84 v3.toNatClampNeg) = (0 : Int32)) ∧ ((¬ ((10000 : Int32) ≤ (I 83 v3.toNatClampNeg))) ∧ (stB I (snt I v3 (1 : Int32)) (I 83 v3.toNatClampNeg) = true))) then (0 : Int32) else ((1 : Int32) <<< (v3 &&& 31)))), .int (v3 + (1 : Int32)), .int (snt I v3 (1 : Int32)), .int (b2i (((I 84 v3.toNatClampNeg) = (0 : Int32)) ∧ ((¬ ((10000 : Int32) ≤ (I 83 v3.toNatClampNeg))) ∧ (stB I (snt I v3 (1 : Int32)) (I 83 v3.toNatClampNeg) = true))))]) dX12_empty_155 (by decide) rfl rfl rfl ?_
            refine V_goto dX12_empty_158 ?_
            exact V_wk (wk_eq (wk_eq (wk_eq (wk_eq (wk_j (wk_j (wk_nil))))))) k
          refine U_ifb_eq dX12_empty_143 (fun c12033 => ?_) (fun c12033 => ?_)
          · refine V_iconst (v := (0 : Int32)) dX12_empty_152 rfl ?_
            exact key10031 _ (by rw [if_pos c12033])
          · refine V_iconst (v := (1 : Int32)) dX12_empty_146 rfl ?_
            refine V_iload_n dX12_empty_147 rfl ?_
            refine V_ishl dX12_empty_148 ?_
            refine V_goto dX12_empty_149 ?_
            exact key10031 _ (by rw [if_neg (not_not_intro c12033)])
        refine U_ifb_eq dX12_empty_61 (fun c12034 => ?_) (fun c12034 => ?_)
        · refine V_iconst (v := (0 : Int32)) dX12_empty_95 rfl ?_
          exact key8023 _ ((b2i_0.mpr (fun q => c12034 q.1)).symm)
        · refine V_aload_n dX12_empty_64 rfl ?_
          refine U_getR dX12_empty_65 fl_X12_52 s_68 rfl ?_
          refine V_iload_n dX12_empty_68 rfl ?_
          have hb10024 := hc10028 c12034
          refine U_iald dX12_empty_69 s_83 hb10024 ?_
          refine V_sipush (v := (10000 : Int32)) dX12_empty_70 rfl ?_
          refine V_icmp_ge dX12_empty_73 (fun c12035 => ?_) (fun c12035 => ?_)
          · refine V_iconst (v := (0 : Int32)) dX12_empty_95 rfl ?_
            exact key8023 _ ((b2i_0.mpr (fun q => (fun q => q.1 c12035) q.2)).symm)
          · refine V_aload_n dX12_empty_76 rfl ?_
            refine V_iload dX12_empty_77 rfl ?_
            refine V_aload_n dX12_empty_79 rfl ?_
            refine U_getR dX12_empty_80 fl_X12_52 s_68 rfl ?_
            refine V_iload_n dX12_empty_83 rfl ?_
            have hb10025 := hc10029 c12034 c12035
            refine U_iald dX12_empty_84 s_83 hb10025 ?_
            have hp10026 := hc10030 c12034 c12035
            refine U_callV1 [.int (snt I v3 (1 : Int32)), .int (I 83 v3.toNatClampNeg)] dX12_empty_85 ov_X12_227 s_68 rfl ⟨rfl, rfl, rfl⟩ rfl rfl rfl (tX12_standsIn hp10026 ?_)
            refine U_ifb_eq dX12_empty_88 (fun c12036 => ?_) (fun c12036 => ?_)
            · refine V_iconst (v := (0 : Int32)) dX12_empty_95 rfl ?_
              exact key8023 _ ((b2i_0.mpr (fun q => (fun q => (fun q => c12036 q) q.2) q.2)).symm)
            · refine V_iconst (v := (1 : Int32)) dX12_empty_91 rfl ?_
              refine V_goto dX12_empty_92 ?_
              exact key8023 _ ((b2i_1.mpr (⟨c12034, ⟨c12035, c12036⟩⟩)).symm)
    refine V_if_ne dX12_empty_44 (fun c12037 => ?_) (fun c12037 => ?_)
    · refine V_iconst (v := (0 : Int32)) dX12_empty_51 rfl ?_
      exact key4 _ ((b2i_0.mpr (fun q => c12037 q)).symm)
    · refine V_iconst (v := (1 : Int32)) dX12_empty_47 rfl ?_
      refine V_goto dX12_empty_48 ?_
      exact key4 _ ((b2i_1.mpr (c12037)).symm)
theorem emM_loop {E : aE} {P : Int32 → hI_ → hJ_ → Prop} {I0 : hI_} {J : hJ_} {w : Int32} (h : Rel I0) (k : ∀ I2, agM I0 I2 → P (emS I0 w (nD I0)) I2 J) : ∀ (m n : Nat) (I : hI_), n + m = nD I0 → SM I0 I (fun _ => true) → HX12_empty_22 E P w (emS I0 w n) (nI n) I J
  | 0, n, I, hn, hs => by
    have hD := Rel_D h
    have e : n = nD I0 := by omega
    refine wX12_empty_22 ?_
    rw [hs.1.1 82 rfl, hD.2.1, e]
    exact ⟨fun _ => k I hs.1, fun z => absurd (nI_le (Nat.le_refl _) (by omega)) z⟩
  | m + 1, n, I, hn, hs => by
    have hD := Rel_D h
    have hC := Rel_C h
    have hPl := Rel_P h
    have hnn : n < nD I0 := by omega
    have hR := Rel_agM hs.1 h
    have tl := tk_le h hnn
    have ok := deal_ok h hnn
    have sn := snt_M h hs.1 hnn
    have vn : vp_in (nI n) 24 := vp_in_nI (by omega) (by omega)
    have dn : ∀ j, j < 4 → inD (nI n) (nI j) := fun j hj => inD_nI (by omega) hj
    have rc := fun I2 h2 => emM_loop (E := E) h k m (n + 1) I2 (by omega) h2
    rw [emS_s] at rc
    have t0 : (nI (tk I0 n) = 0) ↔ tk I0 n = 0 := nI_eqI (b := 0) (by omega) (by omega)
    have a1 : ¬ ((10000 : Int32) ≤ nI (aD I0 n)) := nI_ge (b := 10000) (by omega) (by omega)
    have fin : ∀ (q : Prop) (dq : Decidable q) (I2 : hI_), SM I0 I2 (fun _ => true) → (q ↔ emB I0 w n = true) → HX12_empty_22 E P w (emS I0 w n ||| (@ite Int32 (¬ q) (@instDecidableNot q dq) 0 (1 <<< (nI n &&& 31)))) (nI (n + 1)) I2 J := fun q dq I2 h2 hq => by
      by_cases y : emB I0 w n = true
      · rw [if_neg (fun v => v (hq.mpr y))]
        rw [if_pos y] at rc
        exact rc I2 h2
      · rw [if_pos (fun v => y (hq.mp v)), Int32.or_zero]
        rw [if_neg y] at rc
        exact rc I2 h2
    refine wX12_empty_22 ?_
    rw [hs.1.1 82 rfl, hD.2.1, nI_clamp (by omega), (hs.2.1 n hnn).1, hs.2.2 n hnn rfl, nI_1, sn.2.1, sn.1]
    refine ⟨fun z => absurd z (nI_ge (by omega) (by omega)), fun _ => ⟨dn 1 (by omega), vn, fun z1 => ⟨fun z2 => fin _ _ I hs ?_, fun z2 => ⟨fun z3 => ?_, fun z3 => ⟨dn 0 (by omega), ?_⟩⟩⟩, fun z1 => ⟨fun _ => vn, fun _ _ => vn, fun _ _ => ⟨hR, _, by rw [nC_M hs.1]; exact ok.2.1.2, rfl⟩, fin _ _ I hs ?_⟩⟩⟩
    · rw [t0]
      unfold emB
      rw [if_neg z1, if_neg z2, Bool.and_true, decide_eq_true_iff]
    · have : ¬ emB I0 w n = true := fun y => by
        unfold emB at y
        rw [Bool.and_eq_true] at y
        exact z3 (t0.mpr (of_decide_eq_true y.1))
      rw [if_neg this] at rc
      rw [Int32.or_zero]
      exact rc I hs
    · refine tX12_seenBy hR (by rw [nC_M hs.1]; exact ok.2.1.2) (by omega) (fun I2 hag => ⟨dn 2 (by omega), ?_⟩)
      have hs2 := SM_ag hs hag
      have al := @arr_le (wI I0) (qN I0 (cD I0 n)) (bkN I0 (cD I0 n)) (pD I0 n)
      have eq : qN I (cD I0 n) = qN I0 (cD I0 n) := by unfold qN; rw [cK_M hs.1]
      have eb : bkN I (cD I0 n) = bkN I0 (cD I0 n) := by unfold bkN; rw [cK_M hs.1]
      rw [(snt_M h hs2.1 hnn).2.2.1, if_neg (show ¬ (1 : Int32) = 0 by decide), wI_M hs.1, eq, eb]
      refine fin _ _ I2 hs2 ?_
      unfold emB
      rw [if_neg z1, if_pos z2, nI_ltJ (by omega) (by omega), Bool.and_eq_true, decide_eq_true_iff, decide_eq_true_iff]
      exact ⟨fun y => ⟨t0.mp z3, by omega⟩, fun y => by omega⟩
    · unfold emB
      rw [if_pos z1, t0, stB_M hs.1, Bool.and_eq_true, decide_eq_true_iff]
      exact ⟨fun y => ⟨y.1, y.2.2⟩, fun y => ⟨y.1, a1, y.2⟩⟩
theorem op_empty {E : aE} {I : hI_} {J : hJ_} {P : hI_ → hJ_ → Prop} {a0 : Int32} (h : Rel I) (hP : ∀ I2 J2, Rel I2 → P I2 J2) : Op2 E mX11_empty mX12_empty [.int a0] I J P := by
  refine wX11_empty ⟨fun c1 => ?_, fun c1 => wX12_empty ⟨fun d => absurd d c1, fun _ => ⟨rfl, hP I J h⟩⟩⟩
  refine tX7_settle h (fun I2 hs => emX_loop h (fun I3 hag => ?_) (nD I) 0 I2 (by omega) hs)
  have hR := Rel_agX hag h
  refine wX12_empty ⟨fun _ => ?_, fun d => absurd c1 d⟩
  refine tX12_layStruck hR (fun I4 hm => emM_loop hR (fun I5 hag5 => ⟨?_, hP I5 J (Rel_agM hag5 hR)⟩) (nD I3) 0 I4 (by omega) hm)
  rw [emS_X hag, nD_X hag]
