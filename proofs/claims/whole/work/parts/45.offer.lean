/-! in which minutes a call counts for a place -/
def vN (I : hI_) (c : Nat) : Nat := (cK I c 6).toInt.toNat
noncomputable def opN (I : hI_) (p c : Nat) : Nat := arr (wI I) (qN I c) (mN I c) p
noncomputable def clN (I : hI_) (p c : Nat) : Nat := min (min 1000 (arr (wI I) (qN I c) (bkN I c) p)) (if cK I c 5 = 1 then lat (wI I) p (qN I c) (vN I c) else 1000)
set_option maxHeartbeats 4000000 in
set_option maxRecDepth 20000 in
theorem wX0_setStretch {E : aE} {P : hI_ → hJ_ → Prop} {I : hI_} {J : hJ_} {a0 : Int32} {a1 : Int32} {a2 : Int32} (k : (rok I 24 8 12) ∧ (rok I 24 8 12) ∧ (rok I 24 8 12) ∧ CallI E mX2_arrival [.ref 18, .int (rat I 24 25 a0 (0 : Int32)), .int a1, .int (rat I 24 25 a0 (1 : Int32))] SH I J (fun x4 I5 J6 => (vp_in a0 12) ∧ (vp_in a0 12) ∧ (((rat I 24 25 a0 (7 : Int32)) = (-4 : Int32) → ((a2 = (0 : Int32) → P (upI (upI I5 37 a0.toNatClampNeg x4) 38 a0.toNatClampNeg (999 : Int32)) J6) ∧ (¬ (a2 = (0 : Int32)) → (vp_in a0 12) ∧ (rok (upI (upI I5 37 a0.toNatClampNeg x4) 38 a0.toNatClampNeg (999 : Int32)) 24 8 12) ∧ CallI E mX2_latest [.ref 18, .int a1, .int (rat I 24 25 a0 (0 : Int32)), .int (rat (upI (upI I5 37 a0.toNatClampNeg x4) 38 a0.toNatClampNeg (999 : Int32)) 24 25 a0 (6 : Int32))] SH (upI (upI I5 37 a0.toNatClampNeg x4) 38 a0.toNatClampNeg (999 : Int32)) J6 (fun x13 I14 J15 => (vp_in a0 12) ∧ P (upI I14 38 a0.toNatClampNeg (jmin ((upI (upI I5 37 a0.toNatClampNeg x4) 38 a0.toNatClampNeg (999 : Int32)) 38 a0.toNatClampNeg) x13)) J15)))) ∧ (¬ ((rat I 24 25 a0 (7 : Int32)) = (-4 : Int32)) → CallI E mX2_arrival [.ref 18, .int (rat I 24 25 a0 (0 : Int32)), .int a1, .int (rat I 24 25 a0 (7 : Int32))] SH (upI (upI I5 37 a0.toNatClampNeg x4) 38 a0.toNatClampNeg (999 : Int32)) J6 (fun x17 I18 J19 => (vp_in a0 12) ∧ ((a2 = (0 : Int32) → P (upI I18 38 a0.toNatClampNeg (jmin (999 : Int32) (x17 - (1 : Int32)))) J19) ∧ (¬ (a2 = (0 : Int32)) → (vp_in a0 12) ∧ (rok (upI I18 38 a0.toNatClampNeg (jmin (999 : Int32) (x17 - (1 : Int32)))) 24 8 12) ∧ CallI E mX2_latest [.ref 18, .int a1, .int (rat I 24 25 a0 (0 : Int32)), .int (rat (upI I18 38 a0.toNatClampNeg (jmin (999 : Int32) (x17 - (1 : Int32)))) 24 25 a0 (6 : Int32))] SH (upI I18 38 a0.toNatClampNeg (jmin (999 : Int32) (x17 - (1 : Int32)))) J19 (fun x24 I25 J26 => (vp_in a0 12) ∧ P (upI I25 38 a0.toNatClampNeg (jmin ((upI I18 38 a0.toNatClampNeg (jmin (999 : Int32) (x17 - (1 : Int32)))) 38 a0.toNatClampNeg) x24)) J26)))))))) : CallV E mX0_setStretch [.ref 36, .int a0, .int a1, .int a2] SH I J P := by
  refine Call_of (L := [.ref 36, .int a0, .int a1, .int a2, .retAddr 0, .retAddr 0]) ok_X0_setStretch.1 rfl rfl ?_
  refine V_aload_n dX0_setStretch_0 rfl ?_
  refine U_getR dX0_setStretch_1 fl_X0_31 s_36 rfl ?_
  refine V_iload_n dX0_setStretch_4 rfl ?_
  refine V_iconst (v := (0 : Int32)) dX0_setStretch_5 rfl ?_
  obtain ⟨hp1, k⟩ := k
  refine U_callV1 [.int a0, .int (0 : Int32)] dX0_setStretch_6 ov_X0_38 s_24 rfl ⟨rfl, rfl, rfl⟩ rfl rfl rfl (tX5_at s_24 s_25 (by decide) hp1 ?_)
  refine U_istore (L2 := [.ref 36, .int a0, .int a1, .int a2, .int (rat I 24 25 a0 (0 : Int32)), .retAddr 0]) dX0_setStretch_9 (by decide) rfl ?_
  refine V_aload_n dX0_setStretch_11 rfl ?_
  refine U_getR dX0_setStretch_12 fl_X0_31 s_36 rfl ?_
  refine V_iload_n dX0_setStretch_15 rfl ?_
  refine V_bipush (v := (7 : Int32)) dX0_setStretch_16 rfl ?_
  obtain ⟨hp2, k⟩ := k
  refine U_callV1 [.int a0, .int (7 : Int32)] dX0_setStretch_18 ov_X0_38 s_24 rfl ⟨rfl, rfl, rfl⟩ rfl rfl rfl (tX5_at s_24 s_25 (by decide) hp2 ?_)
  refine U_istore (L2 := [.ref 36, .int a0, .int a1, .int a2, .int (rat I 24 25 a0 (0 : Int32)), .int (rat I 24 25 a0 (7 : Int32))]) dX0_setStretch_21 (by decide) rfl ?_
  refine V_aload_n dX0_setStretch_23 rfl ?_
  refine U_getR dX0_setStretch_24 fl_X0_9 s_36 rfl ?_
  refine V_iload_n dX0_setStretch_27 rfl ?_
  refine V_aload_n dX0_setStretch_28 rfl ?_
  refine U_getR dX0_setStretch_29 fl_X0_21 s_36 rfl ?_
  refine V_iload dX0_setStretch_32 rfl ?_
  refine V_iload_n dX0_setStretch_34 rfl ?_
  refine V_aload_n dX0_setStretch_35 rfl ?_
  refine U_getR dX0_setStretch_36 fl_X0_31 s_36 rfl ?_
  refine V_iload_n dX0_setStretch_39 rfl ?_
  refine V_iconst (v := (1 : Int32)) dX0_setStretch_40 rfl ?_
  obtain ⟨hp3, k⟩ := k
  refine U_callV1 [.int a0, .int (1 : Int32)] dX0_setStretch_41 ov_X0_38 s_24 rfl ⟨rfl, rfl, rfl⟩ rfl rfl rfl (tX5_at s_24 s_25 (by decide) hp3 ?_)
  refine U_callV1 [.int (rat I 24 25 a0 (0 : Int32)), .int a1, .int (rat I 24 25 a0 (1 : Int32))] dX0_setStretch_44 ov_X0_46 s_18 rfl ⟨rfl, rfl, rfl⟩ rfl rfl rfl (CallI_mono k (fun x4 I5 J6 k => ?_))
  obtain ⟨hb7, k⟩ := k
  refine U_iast dX0_setStretch_47 s_37 hb7 ?_
  refine V_aload_n dX0_setStretch_48 rfl ?_
  refine U_getR dX0_setStretch_49 fl_X0_15 s_36 rfl ?_
  refine V_iload_n dX0_setStretch_52 rfl ?_
  refine V_sipush (v := (999 : Int32)) dX0_setStretch_53 rfl ?_
  obtain ⟨hb8, k⟩ := k
  refine U_iast dX0_setStretch_56 s_38 hb8 ?_
  refine V_iload dX0_setStretch_57 rfl ?_
  refine V_bipush (v := (-4 : Int32)) dX0_setStretch_59 rfl ?_
  refine V_icmp_eq dX0_setStretch_61 (fun c9 => ?_) (fun c9 => ?_)
  · have k := k.1 c9
    refine V_iload_n dX0_setStretch_90 rfl ?_
    refine V_if_eq dX0_setStretch_91 (fun c10 => ?_) (fun c10 => ?_)
    · have k := k.1 c10
      exact V_vret dX0_setStretch_129 rfl rfl rfl ⟨_, _, rfl, k⟩
    · have k := k.2 c10
      refine V_aload_n dX0_setStretch_94 rfl ?_
      refine U_getR dX0_setStretch_95 fl_X0_15 s_36 rfl ?_
      refine V_iload_n dX0_setStretch_98 rfl ?_
      refine V_aload_n dX0_setStretch_99 rfl ?_
      refine U_getR dX0_setStretch_100 fl_X0_15 s_36 rfl ?_
      refine V_iload_n dX0_setStretch_103 rfl ?_
      obtain ⟨hb11, k⟩ := k
      refine U_iald dX0_setStretch_104 s_38 hb11 ?_
      refine V_aload_n dX0_setStretch_105 rfl ?_
      refine U_getR dX0_setStretch_106 fl_X0_21 s_36 rfl ?_
      refine V_iload_n dX0_setStretch_109 rfl ?_
      refine V_iload dX0_setStretch_110 rfl ?_
      refine V_aload_n dX0_setStretch_112 rfl ?_
      refine U_getR dX0_setStretch_113 fl_X0_31 s_36 rfl ?_
      refine V_iload_n dX0_setStretch_116 rfl ?_
      refine V_bipush (v := (6 : Int32)) dX0_setStretch_117 rfl ?_
      obtain ⟨hp12, k⟩ := k
      refine U_callV1 [.int a0, .int (6 : Int32)] dX0_setStretch_119 ov_X0_38 s_24 rfl ⟨rfl, rfl, rfl⟩ rfl rfl rfl (tX5_at s_24 s_25 (by decide) hp12 ?_)
      refine U_callV1 [.int a1, .int (rat I 24 25 a0 (0 : Int32)), .int (rat (upI (upI I5 37 a0.toNatClampNeg x4) 38 a0.toNatClampNeg (999 : Int32)) 24 25 a0 (6 : Int32))] dX0_setStretch_122 ov_X0_57 s_18 rfl ⟨rfl, rfl, rfl⟩ rfl rfl rfl (CallI_mono k (fun x13 I14 J15 k => ?_))
      refine V_mmin dX0_setStretch_125 om_X0_52 rfl ?_
      obtain ⟨hb16, k⟩ := k
      refine U_iast dX0_setStretch_128 s_38 hb16 ?_
      exact V_vret dX0_setStretch_129 rfl rfl rfl ⟨_, _, rfl, k⟩
  · have k := k.2 c9
    refine V_aload_n dX0_setStretch_64 rfl ?_
    refine U_getR dX0_setStretch_65 fl_X0_15 s_36 rfl ?_
    refine V_iload_n dX0_setStretch_68 rfl ?_
    refine V_sipush (v := (999 : Int32)) dX0_setStretch_69 rfl ?_
    refine V_aload_n dX0_setStretch_72 rfl ?_
    refine U_getR dX0_setStretch_73 fl_X0_21 s_36 rfl ?_
    refine V_iload dX0_setStretch_76 rfl ?_
    refine V_iload_n dX0_setStretch_78 rfl ?_
    refine V_iload dX0_setStretch_79 rfl ?_
    refine U_callV1 [.int (rat I 24 25 a0 (0 : Int32)), .int a1, .int (rat I 24 25 a0 (7 : Int32))] dX0_setStretch_81 ov_X0_46 s_18 rfl ⟨rfl, rfl, rfl⟩ rfl rfl rfl (CallI_mono k (fun x17 I18 J19 k => ?_))
    refine V_iconst (v := (1 : Int32)) dX0_setStretch_84 rfl ?_
    refine V_isub dX0_setStretch_85 ?_
    refine V_mmin dX0_setStretch_86 om_X0_52 rfl ?_
    obtain ⟨hb20, k⟩ := k
    refine U_iast dX0_setStretch_89 s_38 hb20 ?_
    refine V_iload_n dX0_setStretch_90 rfl ?_
    refine V_if_eq dX0_setStretch_91 (fun c21 => ?_) (fun c21 => ?_)
    · have k := k.1 c21
      exact V_vret dX0_setStretch_129 rfl rfl rfl ⟨_, _, rfl, k⟩
    · have k := k.2 c21
      refine V_aload_n dX0_setStretch_94 rfl ?_
      refine U_getR dX0_setStretch_95 fl_X0_15 s_36 rfl ?_
      refine V_iload_n dX0_setStretch_98 rfl ?_
      refine V_aload_n dX0_setStretch_99 rfl ?_
      refine U_getR dX0_setStretch_100 fl_X0_15 s_36 rfl ?_
      refine V_iload_n dX0_setStretch_103 rfl ?_
      obtain ⟨hb22, k⟩ := k
      refine U_iald dX0_setStretch_104 s_38 hb22 ?_
      refine V_aload_n dX0_setStretch_105 rfl ?_
      refine U_getR dX0_setStretch_106 fl_X0_21 s_36 rfl ?_
      refine V_iload_n dX0_setStretch_109 rfl ?_
      refine V_iload dX0_setStretch_110 rfl ?_
      refine V_aload_n dX0_setStretch_112 rfl ?_
      refine U_getR dX0_setStretch_113 fl_X0_31 s_36 rfl ?_
      refine V_iload_n dX0_setStretch_116 rfl ?_
      refine V_bipush (v := (6 : Int32)) dX0_setStretch_117 rfl ?_
      obtain ⟨hp23, k⟩ := k
      refine U_callV1 [.int a0, .int (6 : Int32)] dX0_setStretch_119 ov_X0_38 s_24 rfl ⟨rfl, rfl, rfl⟩ rfl rfl rfl (tX5_at s_24 s_25 (by decide) hp23 ?_)
      refine U_callV1 [.int a1, .int (rat I 24 25 a0 (0 : Int32)), .int (rat (upI I18 38 a0.toNatClampNeg (jmin (999 : Int32) (x17 - (1 : Int32)))) 24 25 a0 (6 : Int32))] dX0_setStretch_122 ov_X0_57 s_18 rfl ⟨rfl, rfl, rfl⟩ rfl rfl rfl (CallI_mono k (fun x24 I25 J26 k => ?_))
      refine V_mmin dX0_setStretch_125 om_X0_52 rfl ?_
      obtain ⟨hb27, k⟩ := k
      refine U_iast dX0_setStretch_128 s_38 hb27 ?_
      exact V_vret dX0_setStretch_129 rfl rfl rfl ⟨_, _, rfl, k⟩
def agS (I I2 : hI_) : Prop := ∀ a, a ≠ 19 → a ≠ 20 → a ≠ 37 → a ≠ 38 → I2 a = I a
theorem agS_X {I I2 : hI_} (h : agS I I2) : agX I I2 := fun a ha => h a (fun z => by rw [z] at ha; cases ha) (fun z => by rw [z] at ha; cases ha) (fun z => by rw [z] at ha; cases ha) (fun z => by rw [z] at ha; cases ha)
theorem qN_X {I I2 : hI_} (h : agX I I2) (c : Nat) : qN I2 c = qN I c := by unfold qN; rw [cK_X h]
theorem mN_X {I I2 : hI_} (h : agX I I2) (c : Nat) : mN I2 c = mN I c := by unfold mN; rw [cK_X h]
theorem bkN_X {I I2 : hI_} (h : agX I I2) (c : Nat) : bkN I2 c = bkN I c := by unfold bkN; rw [cK_X h]
theorem vN_ok {I : hI_} (h : Rel I) {c : Nat} (hc : c < nC I) (h1 : cK I c 5 = 1) : cK I c 6 = nI (vN I c) ∧ vN I c ≤ 999 := by
  have hb := cK_bet h hc
  have h5 := hb.2.2.2.2.2.2.1 h1
  have hm := cK_min h hc
  have e : 0 ≤ (cK I c 1).toInt := hb.2.1.1
  exact ⟨ofT (by have := h5.1; omega), by unfold vN; have := h5.2; omega⟩
theorem tX0_setStretch {E : aE} {P : hI_ → hJ_ → Prop} {I : hI_} {J : hJ_} {c p : Nat} {a2 : Int32} (h : Rel I) (hc : c < nC I) (hp : p < nP I) (ht : a2 = 0 ↔ ¬ cK I c 5 = 1) (k : ∀ I2, agS I I2 → I2 37 c = nI (opN I p c) → I2 38 c = nI (clN I p c) - 1 → (∀ j, j ≠ c → I2 37 j = I 37 j ∧ I2 38 j = I 38 j) → P I2 J) : CallV E mX0_setStretch [.ref 36, .int (nI c), .int (nI p), .int a2] SH I J P := by
  have hC := (Rel_C h).2.2
  have hr := (Rel_rows h).2.1
  have hq := cK_q h hc
  have hm := cK_min h hc
  have e0 : rat I 24 25 (nI c) 0 = nI (qN I c) := (((Rel_call h hc).1 0 (by omega)).1).trans hq.1
  have e1 : rat I 24 25 (nI c) 1 = nI (mN I c) := (((Rel_call h hc).1 1 (by omega)).1).trans hm.1
  have vc : vp_in (nI c) 12 := vp_in_nI (by omega) (by omega)
  have cc : (nI c).toNatClampNeg = c := nI_clamp (by omega)
  have tail : ∀ (F : hI_) (T1 : Nat), agS I F → F 37 c = nI (opN I p c) → F 38 c = nI T1 - 1 → T1 = min 1000 (arr (wI I) (qN I c) (bkN I c) p) → (∀ j, j ≠ c → F 37 j = I 37 j ∧ F 38 j = I 38 j) → ((a2 = 0 → P F J) ∧ (¬ (a2 = 0) → (vp_in (nI c) 12) ∧ (rok F 24 8 12) ∧ CallI E mX2_latest [.ref 18, .int (nI p), .int (nI (qN I c)), .int (rat F 24 25 (nI c) 6)] SH F J (fun x13 I14 J15 => (vp_in (nI c) 12) ∧ P (upI I14 38 c (jmin (F 38 c) x13)) J15))) := fun F T1 hag f1 f2 eT f3 => by
    have hX := agS_X hag
    have hR := Rel_agX hX h
    refine ⟨fun z => k F hag f1 ?_ f3, fun z => ⟨vc, (Rel_rows hR).2.1, ?_⟩⟩
    · rw [f2, eT]
      unfold clN
      rw [if_neg (ht.mp z), Nat.min_eq_left (Nat.min_le_left _ _)]
    · have h51 : cK I c 5 = 1 := Classical.byContradiction (fun y => z (ht.mpr y))
      have hv := vN_ok h hc h51
      have e6 : rat F 24 25 (nI c) 6 = nI (vN I c) := by
        refine (((Rel_call hR (by rw [nC_X hX]; exact hc)).1 6 (by omega)).1).trans ?_
        rw [← hv.1]; exact cK_X hX c 6
      rw [e6]
      refine tX2_latest hR (by rw [nP_X hX]; exact hp) (by rw [nP_X hX]; exact hq.2) (by omega) (fun I2 hag2 => ⟨vc, ?_⟩)
      rw [wI_X hX, f2]
      have hl := @lat_le (wI I) p (qN I c) (vN I c)
      have hT : T1 ≤ 1000 := by rw [eT]; exact Nat.min_le_left _ _
      rw [jmin_m1 (by omega) (by omega)]
      refine k _ (fun a q1 q2 q3 q4 => ?_) ?_ ?_ (fun j hj => ⟨?_, ?_⟩)
      · rw [← hag a q1 q2 q3 q4, ← hag2 a q2]; funext j; rw [upI_at, if_neg (fun y => q4 y.1)]
      · rw [upI_at, if_neg (by omega), hag2 37 (by omega)]; exact f1
      · rw [upI_at, if_pos ⟨rfl, rfl⟩, eT]
        unfold clN
        rw [if_pos h51]
      · rw [upI_at, if_neg (by omega), hag2 37 (by omega)]; exact (f3 j hj).1
      · rw [upI_at, if_neg (fun y => hj y.2), hag2 38 (by omega)]; exact (f3 j hj).2
  refine wX0_setStretch ⟨hr, hr, hr, ?_⟩
  rw [e0, e1, cc]
  refine tX2_arrival h hq.2 hp (by omega) (fun I5 hag5 => ⟨vc, vc, ?_⟩)
  generalize hF : upI (upI I5 37 c (nI (arr (wI I) (qN I c) (mN I c) p))) 38 c 999 = F
  have agF : agS I F := fun a q1 q2 q3 q4 => by
    rw [← hag5 a q1, ← hF]; funext j; rw [upI_at, if_neg (fun y => q4 y.1), upI_at, if_neg (fun y => q3 y.1)]
  have F1 : F 37 c = nI (opN I p c) := by rw [← hF, upI_at, if_neg (by omega)]; exact upI_same
  have F2 : F 38 c = nI 1000 - 1 := by rw [← hF]; exact upI_same
  have F3 : ∀ j, j ≠ c → F 37 j = I 37 j ∧ F 38 j = I 38 j := fun j hj => by
    rw [← hF]
    refine ⟨?_, ?_⟩
    · rw [upI_at, if_neg (by omega), upI_at, if_neg (fun y => hj y.2), hag5 37 (by omega)]
    · rw [upI_at, if_neg (fun y => hj y.2), upI_at, if_neg (by omega), hag5 38 (by omega)]
  rcases cK_back h hc with ⟨b1, -, b3⟩ | ⟨b0, b1, -, b3⟩
  · rw [b3]
    refine ⟨fun _ => ?_, fun z => absurd rfl z⟩
    exact tail F 1000 agF F1 F2 (by rw [b1, arr_never (Nat.le_refl _)]; rfl) F3
  · rw [b3]
    refine ⟨fun z => absurd z (fun y => neg4_nI (by omega) y), fun _ => ?_⟩
    have hX := agS_X agF
    have hR := Rel_agX hX h
    refine tX2_arrival hR (by rw [nP_X hX]; exact hq.2) (by rw [nP_X hX]; exact hp) (by omega) (fun I6 hag6 => ⟨vc, ?_⟩)
    rw [wI_X hX]
    have hal := @arr_le (wI I) (qN I c) (bkN I c) p
    have ej : jmin 999 (nI (arr (wI I) (qN I c) (bkN I c) p) - 1) = nI (min 1000 (arr (wI I) (qN I c) (bkN I c) p)) - 1 := by
      rw [show (999 : Int32) = nI 1000 - 1 from rfl, jmin_m1 (by omega) (by omega)]
    rw [ej]
    refine tail _ (min 1000 (arr (wI I) (qN I c) (bkN I c) p)) (fun a q1 q2 q3 q4 => ?_) ?_ upI_same rfl (fun j hj => ⟨?_, ?_⟩)
    · rw [← agF a q1 q2 q3 q4, ← hag6 a q1]; funext j; rw [upI_at, if_neg (fun y => q4 y.1)]
    · rw [upI_at, if_neg (by omega), hag6 37 (by omega)]; exact F1
    · rw [upI_at, if_neg (by omega), hag6 37 (by omega)]; exact (F3 j hj).1
    · rw [upI_at, if_neg (fun y => hj y.2), hag6 38 (by omega)]; exact (F3 j hj).2
def HX0_watch_2 (E : aE) (P : hI_ → hJ_ → Prop) (v1 : Int32) (v2 : Int32) (v3 : Int32) (I : hI_) (J : hJ_) : Prop := V E mX0_watch (kV SH P) 2 [.ref 36, .int v1, .int v2, .int v3, .retAddr 0] [] (SH, I, J) (0, 0)
set_option maxHeartbeats 4000000 in
set_option maxRecDepth 20000 in
theorem wX0_watch {E : aE} {P : hI_ → hJ_ → Prop} {I : hI_} {J : hJ_} {a0 : Int32} {a1 : Int32} (k : HX0_watch_2 E P a0 a1 (0 : Int32) I J) : CallV E mX0_watch [.ref 36, .int a0, .int a1] SH I J P := by
  refine Call_of (L := [.ref 36, .int a0, .int a1, .retAddr 0, .retAddr 0]) ok_X0_watch.1 rfl rfl ?_
  refine V_iconst (v := (0 : Int32)) dX0_watch_0 rfl ?_
  refine U_istore_n (L2 := [.ref 36, .int a0, .int a1, .int (0 : Int32), .retAddr 0]) dX0_watch_1 (by decide) rfl ?_
  exact k
set_option maxHeartbeats 4000000 in
set_option maxRecDepth 20000 in
theorem wX0_watch_2 {E : aE} {P : hI_ → hJ_ → Prop} {I : hI_} {J : hJ_} {v1 : Int32} {v2 : Int32} {v3 : Int32} (k : (((I 24 3) ≤ v3 → P I J) ∧ (¬ ((I 24 3) ≤ v3) → (vp_in v3 12) ∧ (vp_in v3 12) ∧ (rok (upI (upI I 37 v3.toNatClampNeg (10000 : Int32)) 38 v3.toNatClampNeg (-1 : Int32)) 24 8 12) ∧ (rok (upI (upI I 37 v3.toNatClampNeg (10000 : Int32)) 38 v3.toNatClampNeg (-1 : Int32)) 24 8 12) ∧ (((rat (upI (upI I 37 v3.toNatClampNeg (10000 : Int32)) 38 v3.toNatClampNeg (-1 : Int32)) 24 25 v3 (0 : Int32)) = v1 → HX0_watch_2 E P v1 v2 (v3 + (1 : Int32)) (upI (upI I 37 v3.toNatClampNeg (10000 : Int32)) 38 v3.toNatClampNeg (-1 : Int32)) J) ∧ (¬ ((rat (upI (upI I 37 v3.toNatClampNeg (10000 : Int32)) 38 v3.toNatClampNeg (-1 : Int32)) 24 25 v3 (0 : Int32)) = v1) → ((((rat (upI (upI I 37 v3.toNatClampNeg (10000 : Int32)) 38 v3.toNatClampNeg (-1 : Int32)) 24 25 v3 (5 : Int32)) = (1 : Int32)) → CallV E mX0_setStretch [.ref 36, .int v3, .int v1, .int (b2i ((rat (upI (upI I 37 v3.toNatClampNeg (10000 : Int32)) 38 v3.toNatClampNeg (-1 : Int32)) 24 25 v3 (5 : Int32)) = (1 : Int32)))] SH (upI (upI I 37 v3.toNatClampNeg (10000 : Int32)) 38 v3.toNatClampNeg (-1 : Int32)) J (fun I2011 J2012 => HX0_watch_2 E P v1 v2 (v3 + (1 : Int32)) I2011 J2012)) ∧ (¬ (((rat (upI (upI I 37 v3.toNatClampNeg (10000 : Int32)) 38 v3.toNatClampNeg (-1 : Int32)) 24 25 v3 (5 : Int32)) = (1 : Int32))) → ((¬ v2 = (0 : Int32) → HX0_watch_2 E P v1 v2 (v3 + (1 : Int32)) (upI (upI I 37 v3.toNatClampNeg (10000 : Int32)) 38 v3.toNatClampNeg (-1 : Int32)) J) ∧ (v2 = (0 : Int32) → CallV E mX0_setStretch [.ref 36, .int v3, .int v1, .int (b2i ((rat (upI (upI I 37 v3.toNatClampNeg (10000 : Int32)) 38 v3.toNatClampNeg (-1 : Int32)) 24 25 v3 (5 : Int32)) = (1 : Int32)))] SH (upI (upI I 37 v3.toNatClampNeg (10000 : Int32)) 38 v3.toNatClampNeg (-1 : Int32)) J (fun I2015 J2016 => HX0_watch_2 E P v1 v2 (v3 + (1 : Int32)) I2015 J2016)))))))))) : HX0_watch_2 E P v1 v2 v3 I J := by
  show V E mX0_watch (kV SH P) 2 [.ref 36, .int v1, .int v2, .int v3, .retAddr 0] [] (SH, I, J) (0, 0)
  refine V_iload_n dX0_watch_2 rfl ?_
  refine V_aload_n dX0_watch_3 rfl ?_
  refine U_getR dX0_watch_4 fl_X0_31 s_36 rfl ?_
  refine U_getI dX0_watch_7 fl_X0_32 s_24 rfl ?_
  refine V_icmp_ge dX0_watch_10 (fun c1 => ?_) (fun c1 => ?_)
  · have k := k.1 c1
    exact V_vret dX0_watch_85 rfl rfl rfl ⟨_, _, rfl, k⟩
  · have k := k.2 c1
    refine V_aload_n dX0_watch_13 rfl ?_
    refine U_getR dX0_watch_14 fl_X0_9 s_36 rfl ?_
    refine V_iload_n dX0_watch_17 rfl ?_
    refine V_sipush (v := (10000 : Int32)) dX0_watch_18 rfl ?_
    obtain ⟨hb2, k⟩ := k
    refine U_iast dX0_watch_21 s_37 hb2 ?_
    refine V_aload_n dX0_watch_22 rfl ?_
    refine U_getR dX0_watch_23 fl_X0_15 s_36 rfl ?_
    refine V_iload_n dX0_watch_26 rfl ?_
    refine V_iconst (v := (-1 : Int32)) dX0_watch_27 rfl ?_
    obtain ⟨hb3, k⟩ := k
    refine U_iast dX0_watch_28 s_38 hb3 ?_
    refine V_aload_n dX0_watch_29 rfl ?_
    refine U_getR dX0_watch_30 fl_X0_31 s_36 rfl ?_
    refine V_iload_n dX0_watch_33 rfl ?_
    refine V_iconst (v := (5 : Int32)) dX0_watch_34 rfl ?_
    obtain ⟨hp4, k⟩ := k
    refine U_callV1 [.int v3, .int (5 : Int32)] dX0_watch_35 ov_X0_38 s_24 rfl ⟨rfl, rfl, rfl⟩ rfl rfl rfl (tX5_at s_24 s_25 (by decide) hp4 ?_)
    refine V_iconst (v := (1 : Int32)) dX0_watch_38 rfl ?_
    have key5 : ∀ (y2006 : Int32), y2006 = (b2i ((rat (upI (upI I 37 v3.toNatClampNeg (10000 : Int32)) 38 v3.toNatClampNeg (-1 : Int32)) 24 25 v3 (5 : Int32)) = (1 : Int32))) → V E mX0_watch (kV SH P) 47 [.ref 36, .int v1, .int v2, .int v3, .retAddr 0] [.int y2006] (SH, upI (upI I 37 v3.toNatClampNeg (10000 : Int32)) 38 v3.toNatClampNeg (-1 : Int32), J) (0, 0) := by
      intro y2006 ey2006
      subst ey2006
      refine U_istore (L2 := [.ref 36, .int v1, .int v2, .int v3, .int (b2i ((rat (upI (upI I 37 v3.toNatClampNeg (10000 : Int32)) 38 v3.toNatClampNeg (-1 : Int32)) 24 25 v3 (5 : Int32)) = (1 : Int32)))]) dX0_watch_47 (by decide) rfl ?_
      refine V_aload_n dX0_watch_49 rfl ?_
      refine U_getR dX0_watch_50 fl_X0_31 s_36 rfl ?_
      refine V_iload_n dX0_watch_53 rfl ?_
      refine V_iconst (v := (0 : Int32)) dX0_watch_54 rfl ?_
      obtain ⟨hp2007, k⟩ := k
      refine U_callV1 [.int v3, .int (0 : Int32)] dX0_watch_55 ov_X0_38 s_24 rfl ⟨rfl, rfl, rfl⟩ rfl rfl rfl (tX5_at s_24 s_25 (by decide) hp2007 ?_)
      refine V_iload_n dX0_watch_58 rfl ?_
      refine V_icmp_eq dX0_watch_59 (fun c2008 => ?_) (fun c2008 => ?_)
      · have k := k.1 c2008
        refine U_iinc (v := v3 + (1 : Int32)) (L2 := [.ref 36, .int v1, .int v2, .int (v3 + (1 : Int32)), .int (b2i ((rat (upI (upI I 37 v3.toNatClampNeg (10000 : Int32)) 38 v3.toNatClampNeg (-1 : Int32)) 24 25 v3 (5 : Int32)) = (1 : Int32)))]) dX0_watch_79 (by decide) rfl rfl rfl ?_
        refine V_goto dX0_watch_82 ?_
        exact V_wk (wk_eq (wk_eq (wk_eq (wk_eq (wk_j (wk_nil)))))) k
      · have k := k.2 c2008
        refine V_iload dX0_watch_62 rfl ?_
        refine U_ifb_ne dX0_watch_64 (fun c2009 => ?_) (fun c2009 => ?_)
        · have k := k.1 c2009
          refine V_aload_n dX0_watch_71 rfl ?_
          refine V_iload_n dX0_watch_72 rfl ?_
          refine V_iload_n dX0_watch_73 rfl ?_
          refine V_iload dX0_watch_74 rfl ?_
          refine U_callV0 [.int v3, .int v1, .int (b2i ((rat (upI (upI I 37 v3.toNatClampNeg (10000 : Int32)) 38 v3.toNatClampNeg (-1 : Int32)) 24 25 v3 (5 : Int32)) = (1 : Int32)))] dX0_watch_76 ov_X0_42 s_36 rfl ⟨rfl, rfl, rfl⟩ rfl rfl rfl (CallV_mono k (fun I2011 J2012 k => ?_))
          refine U_iinc (v := v3 + (1 : Int32)) (L2 := [.ref 36, .int v1, .int v2, .int (v3 + (1 : Int32)), .int (b2i ((rat (upI (upI I 37 v3.toNatClampNeg (10000 : Int32)) 38 v3.toNatClampNeg (-1 : Int32)) 24 25 v3 (5 : Int32)) = (1 : Int32)))]) dX0_watch_79 (by decide) rfl rfl rfl ?_
          refine V_goto dX0_watch_82 ?_
          exact V_wk (wk_eq (wk_eq (wk_eq (wk_eq (wk_j (wk_nil)))))) k
        · have k := k.2 c2009
          refine V_iload_n dX0_watch_67 rfl ?_
          refine V_if_ne dX0_watch_68 (fun c2013 => ?_) (fun c2013 => ?_)
          · have k := k.1 c2013
            refine U_iinc (v := v3 + (1 : Int32)) (L2 := [.ref 36, .int v1, .int v2, .int (v3 + (1 : Int32)), .int (b2i ((rat (upI (upI I 37 v3.toNatClampNeg (10000 : Int32)) 38 v3.toNatClampNeg (-1 : Int32)) 24 25 v3 (5 : Int32)) = (1 : Int32)))]) dX0_watch_79 (by decide) rfl rfl rfl ?_
            refine V_goto dX0_watch_82 ?_
            exact V_wk (wk_eq (wk_eq (wk_eq (wk_eq (wk_j (wk_nil)))))) k
          · have k := k.2 c2013
            refine V_aload_n dX0_watch_71 rfl ?_
            refine V_iload_n dX0_watch_72 rfl ?_
            refine V_iload_n dX0_watch_73 rfl ?_
            refine V_iload dX0_watch_74 rfl ?_
            refine U_callV0 [.int v3, .int v1, .int (b2i ((rat (upI (upI I 37 v3.toNatClampNeg (10000 : Int32)) 38 v3.toNatClampNeg (-1 : Int32)) 24 25 v3 (5 : Int32)) = (1 : Int32)))] dX0_watch_76 ov_X0_42 s_36 rfl ⟨rfl, rfl, rfl⟩ rfl rfl rfl (CallV_mono k (fun I2015 J2016 k => ?_))
            refine U_iinc (v := v3 + (1 : Int32)) (L2 := [.ref 36, .int v1, .int v2, .int (v3 + (1 : Int32)), .int (b2i ((rat (upI (upI I 37 v3.toNatClampNeg (10000 : Int32)) 38 v3.toNatClampNeg (-1 : Int32)) 24 25 v3 (5 : Int32)) = (1 : Int32)))]) dX0_watch_79 (by decide) rfl rfl rfl ?_
            refine V_goto dX0_watch_82 ?_
            exact V_wk (wk_eq (wk_eq (wk_eq (wk_eq (wk_j (wk_nil)))))) k
    refine V_icmp_ne dX0_watch_39 (fun c2017 => ?_) (fun c2017 => ?_)
    · refine V_iconst (v := (0 : Int32)) dX0_watch_46 rfl ?_
      exact key5 _ ((b2i_0.mpr (fun q => c2017 q)).symm)
    · refine V_iconst (v := (1 : Int32)) dX0_watch_42 rfl ?_
      refine V_goto dX0_watch_43 ?_
      exact key5 _ ((b2i_1.mpr (c2017)).symm)
def skB (I : hI_) (p : Nat) (su : Int32) (c : Nat) : Bool := decide (cK I c 0 = nI p) || (decide (¬ cK I c 5 = 1) && decide (¬ su = 0))
noncomputable def opW (I : hI_) (p : Nat) (su : Int32) (c : Nat) : Nat := if skB I p su c = true then 10000 else opN I p c
noncomputable def clW (I : hI_) (p : Nat) (su : Int32) (c : Nat) : Nat := if skB I p su c = true then 0 else clN I p c
theorem opN_X {I I2 : hI_} (h : agX I I2) (p c : Nat) : opN I2 p c = opN I p c := by unfold opN; rw [wI_X h, qN_X h, mN_X h]
theorem clN_X {I I2 : hI_} (h : agX I I2) (p c : Nat) : clN I2 p c = clN I p c := by unfold clN vN; rw [wI_X h, qN_X h, bkN_X h, cK_X h, cK_X h]
theorem watch_loop {E : aE} {P : hI_ → hJ_ → Prop} {I0 : hI_} {J : hJ_} {p : Nat} {su : Int32} (h : Rel I0) (hp : p < nP I0) (k : ∀ I2, agS I0 I2 → (∀ j, j < nC I0 → I2 37 j = nI (opW I0 p su j) ∧ I2 38 j = nI (clW I0 p su j) - 1) → P I2 J) : ∀ (m c : Nat) (I : hI_), c + m = nC I0 → agS I0 I → (∀ j, j < c → I 37 j = nI (opW I0 p su j) ∧ I 38 j = nI (clW I0 p su j) - 1) → HX0_watch_2 E P (nI p) su (nI c) I J
  | 0, c, I, hc, hag, hI => by
    have hC := Rel_C h
    refine wX0_watch_2 ?_
    rw [hag 24 (by omega) (by omega) (by omega) (by omega), hC.1]
    exact ⟨fun _ => k I hag (fun j hj => hI j (by omega)), fun z => absurd (nI_le (by omega) (by omega)) z⟩
  | m + 1, c, I, hc, hag, hI => by
    have hC := Rel_C h
    have vc : vp_in (nI c) 12 := vp_in_nI (by omega) (by omega)
    have cc : (nI c).toNatClampNeg = c := nI_clamp (by omega)
    refine wX0_watch_2 ?_
    rw [hag 24 (by omega) (by omega) (by omega) (by omega), hC.1, cc, nI_1]
    refine ⟨fun z => absurd z (nI_ge (by omega) (by omega)), fun _ => ?_⟩
    generalize hF : upI (upI I 37 c 10000) 38 c (-1) = F
    have agF : agS I0 F := fun a q1 q2 q3 q4 => by
      rw [← hag a q1 q2 q3 q4, ← hF]; funext j; rw [upI_at, if_neg (fun y => q4 y.1), upI_at, if_neg (fun y => q3 y.1)]
    have F1 : F 37 c = nI 10000 := by rw [← hF, upI_at, if_neg (by omega)]; exact upI_same
    have F2 : F 38 c = nI 0 - 1 := by rw [← hF]; exact upI_same
    have F3 : ∀ j, j ≠ c → F 37 j = I 37 j ∧ F 38 j = I 38 j := fun j hj => by
      rw [← hF]
      refine ⟨?_, ?_⟩
      · rw [upI_at, if_neg (by omega), upI_at, if_neg (fun y => hj y.2)]
      · rw [upI_at, if_neg (fun y => hj y.2), upI_at, if_neg (by omega)]
    have hX := agS_X agF
    have hR := Rel_agX hX h
    have hcF : c < nC F := by rw [nC_X hX]; omega
    have e0 : rat F 24 25 (nI c) 0 = cK I0 c 0 := (((Rel_call hR hcF).1 0 (by omega)).1).trans (cK_X hX c 0)
    have e5 : rat F 24 25 (nI c) 5 = cK I0 c 5 := (((Rel_call hR hcF).1 5 (by omega)).1).trans (cK_X hX c 5)
    have skip : skB I0 p su c = true → HX0_watch_2 E P (nI p) su (nI (c + 1)) F J := fun hs => by
      refine watch_loop h hp k m (c + 1) F (by omega) agF (fun j hj => ?_)
      by_cases e : j = c
      · rw [e, F1, F2]
        unfold opW clW
        rw [if_pos hs, if_pos hs]; exact ⟨rfl, rfl⟩
      · rw [(F3 j e).1, (F3 j e).2]; exact hI j (by omega)
    have set_ : ¬ skB I0 p su c = true → CallV E mX0_setStretch [.ref 36, .int (nI c), .int (nI p), .int (b2i (cK I0 c 5 = 1))] SH F J (fun I2 J2 => HX0_watch_2 E P (nI p) su (nI (c + 1)) I2 J2) := fun hs => by
      refine tX0_setStretch hR hcF (by rw [nP_X hX]; exact hp) ?_ (fun I2 hag2 g1 g2 g3 => ?_)
      · rw [cK_X hX]
        unfold b2i
        by_cases z : cK I0 c 5 = 1
        · rw [if_pos z]; exact ⟨fun y => absurd y (by decide), fun y => absurd z y⟩
        · rw [if_neg z]; exact ⟨fun _ => z, fun _ => rfl⟩
      · rw [opN_X hX] at g1
        rw [clN_X hX] at g2
        refine watch_loop h hp k m (c + 1) I2 (by omega) (fun a q1 q2 q3 q4 => by rw [hag2 a q1 q2 q3 q4, agF a q1 q2 q3 q4]) (fun j hj => ?_)
        by_cases e : j = c
        · rw [e, g1, g2]
          unfold opW clW
          rw [if_neg hs, if_neg hs]; exact ⟨rfl, rfl⟩
        · rw [(g3 j e).1, (g3 j e).2, (F3 j e).1, (F3 j e).2]; exact hI j (by omega)
    have rF := (Rel_rows hR).2.1
    rw [e0, e5]
    refine ⟨vc, vc, rF, rF, fun z => skip ?_, fun z => ⟨fun z2 => set_ ?_, fun z2 => ⟨fun z3 => skip ?_, fun z3 => set_ ?_⟩⟩⟩
    · unfold skB; simp [z]
    · unfold skB; simp [z, z2]
    · unfold skB; simp [z2, z3]
    · unfold skB; simp [z, z3]
theorem tX0_watch {E : aE} {P : hI_ → hJ_ → Prop} {I : hI_} {J : hJ_} {p : Nat} {su : Int32} (h : Rel I) (hp : p < nP I) (k : ∀ I2, agS I I2 → (∀ j, j < nC I → I2 37 j = nI (opW I p su j) ∧ I2 38 j = nI (clW I p su j) - 1) → P I2 J) : CallV E mX0_watch [.ref 36, .int (nI p), .int su] SH I J P := wX0_watch (watch_loop h hp k (nC I) 0 I (by omega) (fun _ _ _ _ _ => rfl) (fun j hj => by omega))
/-- a call counts for a place in a minute -/
noncomputable def cntB2 (I : hI_) (p t : Nat) (su : Int32) (c : Nat) : Bool := Nat.ble (opW I p su c) t && Nat.blt t (clW I p su c)
set_option maxHeartbeats 4000000 in
set_option maxRecDepth 20000 in
theorem wX12_isOffer {E : aE} {P : Int32 → hI_ → hJ_ → Prop} {I : hI_} {J : hJ_} {a0 : Int32} {a1 : Int32} {a2 : Int32} {a3 : Int32} (k : (inC a0 (0 : Int32)) ∧ (((its I a0 (0 : Int32)) = a1 → (inC a0 (0 : Int32)) ∧ CallI E mX12_news [.ref 68, .int a1, .int (its I a0 (0 : Int32)), .int a2] SH I J (fun x4 I5 J6 => (inC a0 (5 : Int32)) ∧ P (0 : Int32) I5 J6)) ∧ (¬ ((its I a0 (0 : Int32)) = a1) → CallI E mX12_seenBy [.ref 68, .int a0, .int a1, .int (0 : Int32)] SH I J (fun x2011 I2012 J2013 => ((a2 < x2011 → (inC a0 (0 : Int32)) ∧ CallI E mX12_news [.ref 68, .int a1, .int (its I2012 a0 (0 : Int32)), .int a2] SH I2012 J2013 (fun x2016 I2017 J2018 => (inC a0 (5 : Int32)) ∧ P (0 : Int32) I2017 J2018)) ∧ (¬ (a2 < x2011) → CallI E mX12_seenBy [.ref 68, .int a0, .int a1, .int (1 : Int32)] SH I2012 J2013 (fun x4023 I4024 J4025 => (inC a0 (0 : Int32)) ∧ CallI E mX12_news [.ref 68, .int a1, .int (its I4024 a0 (0 : Int32)), .int a2] SH I4024 J4025 (fun x6029 I6030 J6031 => (inC a0 (5 : Int32)) ∧ (((¬ (x4023 ≤ a2))) → (¬ ((10000 : Int32) ≤ x6029)) → (((its I6030 a0 (5 : Int32)) = (1 : Int32))) → inC a0 (6 : Int32)) ∧ P (b2i ((¬ (x4023 ≤ a2)) ∧ ((¬ ((10000 : Int32) ≤ x6029)) ∧ (((¬ ((its I6030 a0 (5 : Int32)) = (1 : Int32))) ∧ (((its I6030 a0 (5 : Int32)) = (1 : Int32)) ∨ (a3 = (0 : Int32)))) ∨ (((its I6030 a0 (5 : Int32)) = (1 : Int32)) ∧ ((¬ ((its I6030 a0 (6 : Int32)) < x6029)) ∧ (((its I6030 a0 (5 : Int32)) = (1 : Int32)) ∨ (a3 = (0 : Int32))))))))) I6030 J6031)))))))) : CallI E mX12_isOffer [.ref 68, .int a0, .int a1, .int a2, .int a3] SH I J P := by
  refine Call_of (L := [.ref 68, .int a0, .int a1, .int a2, .int a3, .retAddr 0, .retAddr 0, .retAddr 0]) ok_X12_isOffer.1 rfl rfl ?_
  refine V_aload_n dX12_isOffer_0 rfl ?_
  refine V_iload_n dX12_isOffer_1 rfl ?_
  refine V_iconst (v := (0 : Int32)) dX12_isOffer_2 rfl ?_
  obtain ⟨hp1, k⟩ := k
  refine U_callV1 [.int a0, .int (0 : Int32)] dX12_isOffer_3 ov_X12_202 s_68 rfl ⟨rfl, rfl, rfl⟩ rfl rfl rfl (tX12_its hp1 ?_)
  refine V_iload_n dX12_isOffer_6 rfl ?_
  refine V_icmp_eq dX12_isOffer_7 (fun c2 => ?_) (fun c2 => ?_)
  · have k := k.1 c2
    refine V_iconst (v := (0 : Int32)) dX12_isOffer_36 rfl ?_
    refine U_istore (L2 := [.ref 68, .int a0, .int a1, .int a2, .int a3, .int (0 : Int32), .retAddr 0, .retAddr 0]) dX12_isOffer_37 (by decide) rfl ?_
    refine V_aload_n dX12_isOffer_39 rfl ?_
    refine V_iload_n dX12_isOffer_40 rfl ?_
    refine V_aload_n dX12_isOffer_41 rfl ?_
    refine V_iload_n dX12_isOffer_42 rfl ?_
    refine V_iconst (v := (0 : Int32)) dX12_isOffer_43 rfl ?_
    obtain ⟨hp3, k⟩ := k
    refine U_callV1 [.int a0, .int (0 : Int32)] dX12_isOffer_44 ov_X12_202 s_68 rfl ⟨rfl, rfl, rfl⟩ rfl rfl rfl (tX12_its hp3 ?_)
    refine V_iload_n dX12_isOffer_47 rfl ?_
    refine U_callV1 [.int a1, .int (its I a0 (0 : Int32)), .int a2] dX12_isOffer_48 ov_X12_182 s_68 rfl ⟨rfl, rfl, rfl⟩ rfl rfl rfl (CallI_mono k (fun x4 I5 J6 k => ?_))
    refine U_istore (L2 := [.ref 68, .int a0, .int a1, .int a2, .int a3, .int (0 : Int32), .int x4, .retAddr 0]) dX12_isOffer_51 (by decide) rfl ?_
    refine V_aload_n dX12_isOffer_53 rfl ?_
    refine V_iload_n dX12_isOffer_54 rfl ?_
    refine V_iconst (v := (5 : Int32)) dX12_isOffer_55 rfl ?_
    obtain ⟨hp7, k⟩ := k
    refine U_callV1 [.int a0, .int (5 : Int32)] dX12_isOffer_56 ov_X12_202 s_68 rfl ⟨rfl, rfl, rfl⟩ rfl rfl rfl (tX12_its hp7 ?_)
    refine V_iconst (v := (1 : Int32)) dX12_isOffer_59 rfl ?_
    have key8 : ∀ (y2009 : Int32), y2009 = (b2i ((its I5 a0 (5 : Int32)) = (1 : Int32))) → V E mX12_isOffer (kI SH P) 68 [.ref 68, .int a0, .int a1, .int a2, .int a3, .int (0 : Int32), .int x4, .retAddr 0] [.int y2009] (SH, I5, J6) (0, 0) := by
      intro y2009 ey2009
      subst ey2009
      refine U_istore (L2 := [.ref 68, .int a0, .int a1, .int a2, .int a3, .int (0 : Int32), .int x4, .int (b2i ((its I5 a0 (5 : Int32)) = (1 : Int32)))]) dX12_isOffer_68 (by decide) rfl ?_
      refine V_iload dX12_isOffer_70 rfl ?_
      refine V_if_eq dX12_isOffer_72 (fun _ => ?_) (fun q => absurd q (by decide))
      refine V_iconst (v := (0 : Int32)) dX12_isOffer_114 rfl ?_
      exact V_iret dX12_isOffer_115 ⟨_, rfl, rfl⟩ rfl rfl ⟨_, _, _, rfl, rfl, k⟩
    refine V_icmp_ne dX12_isOffer_60 (fun c2010 => ?_) (fun c2010 => ?_)
    · refine V_iconst (v := (0 : Int32)) dX12_isOffer_67 rfl ?_
      exact key8 _ ((b2i_0.mpr (fun q => c2010 q)).symm)
    · refine V_iconst (v := (1 : Int32)) dX12_isOffer_63 rfl ?_
      refine V_goto dX12_isOffer_64 ?_
      exact key8 _ ((b2i_1.mpr (c2010)).symm)
  · have k := k.2 c2
    refine V_aload_n dX12_isOffer_10 rfl ?_
    refine V_iload_n dX12_isOffer_11 rfl ?_
    refine V_iload_n dX12_isOffer_12 rfl ?_
    refine V_iconst (v := (0 : Int32)) dX12_isOffer_13 rfl ?_
    refine U_callV1 [.int a0, .int a1, .int (0 : Int32)] dX12_isOffer_14 ov_X12_231 s_68 rfl ⟨rfl, rfl, rfl⟩ rfl rfl rfl (CallI_mono k (fun x2011 I2012 J2013 k => ?_))
    refine V_iload_n dX12_isOffer_17 rfl ?_
    refine V_icmp_gt dX12_isOffer_18 (fun c2014 => ?_) (fun c2014 => ?_)
    · have k := k.1 c2014
      refine V_iconst (v := (0 : Int32)) dX12_isOffer_36 rfl ?_
      refine U_istore (L2 := [.ref 68, .int a0, .int a1, .int a2, .int a3, .int (0 : Int32), .retAddr 0, .retAddr 0]) dX12_isOffer_37 (by decide) rfl ?_
      refine V_aload_n dX12_isOffer_39 rfl ?_
      refine V_iload_n dX12_isOffer_40 rfl ?_
      refine V_aload_n dX12_isOffer_41 rfl ?_
      refine V_iload_n dX12_isOffer_42 rfl ?_
      refine V_iconst (v := (0 : Int32)) dX12_isOffer_43 rfl ?_
      obtain ⟨hp2015, k⟩ := k
      refine U_callV1 [.int a0, .int (0 : Int32)] dX12_isOffer_44 ov_X12_202 s_68 rfl ⟨rfl, rfl, rfl⟩ rfl rfl rfl (tX12_its hp2015 ?_)
      refine V_iload_n dX12_isOffer_47 rfl ?_
      refine U_callV1 [.int a1, .int (its I2012 a0 (0 : Int32)), .int a2] dX12_isOffer_48 ov_X12_182 s_68 rfl ⟨rfl, rfl, rfl⟩ rfl rfl rfl (CallI_mono k (fun x2016 I2017 J2018 k => ?_))
      refine U_istore (L2 := [.ref 68, .int a0, .int a1, .int a2, .int a3, .int (0 : Int32), .int x2016, .retAddr 0]) dX12_isOffer_51 (by decide) rfl ?_
      refine V_aload_n dX12_isOffer_53 rfl ?_
      refine V_iload_n dX12_isOffer_54 rfl ?_
      refine V_iconst (v := (5 : Int32)) dX12_isOffer_55 rfl ?_
      obtain ⟨hp2019, k⟩ := k
      refine U_callV1 [.int a0, .int (5 : Int32)] dX12_isOffer_56 ov_X12_202 s_68 rfl ⟨rfl, rfl, rfl⟩ rfl rfl rfl (tX12_its hp2019 ?_)
      refine V_iconst (v := (1 : Int32)) dX12_isOffer_59 rfl ?_
      have key2020 : ∀ (y4021 : Int32), y4021 = (b2i ((its I2017 a0 (5 : Int32)) = (1 : Int32))) → V E mX12_isOffer (kI SH P) 68 [.ref 68, .int a0, .int a1, .int a2, .int a3, .int (0 : Int32), .int x2016, .retAddr 0] [.int y4021] (SH, I2017, J2018) (0, 0) := by
        intro y4021 ey4021
        subst ey4021
        refine U_istore (L2 := [.ref 68, .int a0, .int a1, .int a2, .int a3, .int (0 : Int32), .int x2016, .int (b2i ((its I2017 a0 (5 : Int32)) = (1 : Int32)))]) dX12_isOffer_68 (by decide) rfl ?_
        refine V_iload dX12_isOffer_70 rfl ?_
        refine V_if_eq dX12_isOffer_72 (fun _ => ?_) (fun q => absurd q (by decide))
        refine V_iconst (v := (0 : Int32)) dX12_isOffer_114 rfl ?_
        exact V_iret dX12_isOffer_115 ⟨_, rfl, rfl⟩ rfl rfl ⟨_, _, _, rfl, rfl, k⟩
      refine V_icmp_ne dX12_isOffer_60 (fun c4022 => ?_) (fun c4022 => ?_)
      · refine V_iconst (v := (0 : Int32)) dX12_isOffer_67 rfl ?_
        exact key2020 _ ((b2i_0.mpr (fun q => c4022 q)).symm)
      · refine V_iconst (v := (1 : Int32)) dX12_isOffer_63 rfl ?_
        refine V_goto dX12_isOffer_64 ?_
        exact key2020 _ ((b2i_1.mpr (c4022)).symm)
    · have k := k.2 c2014
      refine V_aload_n dX12_isOffer_21 rfl ?_
      refine V_iload_n dX12_isOffer_22 rfl ?_
      refine V_iload_n dX12_isOffer_23 rfl ?_
      refine V_iconst (v := (1 : Int32)) dX12_isOffer_24 rfl ?_
      refine U_callV1 [.int a0, .int a1, .int (1 : Int32)] dX12_isOffer_25 ov_X12_231 s_68 rfl ⟨rfl, rfl, rfl⟩ rfl rfl rfl (CallI_mono k (fun x4023 I4024 J4025 k => ?_))
      refine V_iload_n dX12_isOffer_28 rfl ?_
      have key4026 : ∀ (y6027 : Int32), y6027 = (b2i (¬ (x4023 ≤ a2))) → V E mX12_isOffer (kI SH P) 37 [.ref 68, .int a0, .int a1, .int a2, .int a3, .retAddr 0, .retAddr 0, .retAddr 0] [.int y6027] (SH, I4024, J4025) (0, 0) := by
        intro y6027 ey6027
        subst ey6027
        refine U_istore (L2 := [.ref 68, .int a0, .int a1, .int a2, .int a3, .int (b2i (¬ (x4023 ≤ a2))), .retAddr 0, .retAddr 0]) dX12_isOffer_37 (by decide) rfl ?_
        refine V_aload_n dX12_isOffer_39 rfl ?_
        refine V_iload_n dX12_isOffer_40 rfl ?_
        refine V_aload_n dX12_isOffer_41 rfl ?_
        refine V_iload_n dX12_isOffer_42 rfl ?_
        refine V_iconst (v := (0 : Int32)) dX12_isOffer_43 rfl ?_
        obtain ⟨hp6028, k⟩ := k
        refine U_callV1 [.int a0, .int (0 : Int32)] dX12_isOffer_44 ov_X12_202 s_68 rfl ⟨rfl, rfl, rfl⟩ rfl rfl rfl (tX12_its hp6028 ?_)
        refine V_iload_n dX12_isOffer_47 rfl ?_
        refine U_callV1 [.int a1, .int (its I4024 a0 (0 : Int32)), .int a2] dX12_isOffer_48 ov_X12_182 s_68 rfl ⟨rfl, rfl, rfl⟩ rfl rfl rfl (CallI_mono k (fun x6029 I6030 J6031 k => ?_))
        refine U_istore (L2 := [.ref 68, .int a0, .int a1, .int a2, .int a3, .int (b2i (¬ (x4023 ≤ a2))), .int x6029, .retAddr 0]) dX12_isOffer_51 (by decide) rfl ?_
        refine V_aload_n dX12_isOffer_53 rfl ?_
        refine V_iload_n dX12_isOffer_54 rfl ?_
        refine V_iconst (v := (5 : Int32)) dX12_isOffer_55 rfl ?_
        obtain ⟨hp6032, k⟩ := k
        refine U_callV1 [.int a0, .int (5 : Int32)] dX12_isOffer_56 ov_X12_202 s_68 rfl ⟨rfl, rfl, rfl⟩ rfl rfl rfl (tX12_its hp6032 ?_)
        refine V_iconst (v := (1 : Int32)) dX12_isOffer_59 rfl ?_
        have key6033 : ∀ (y8034 : Int32), y8034 = (b2i ((its I6030 a0 (5 : Int32)) = (1 : Int32))) → V E mX12_isOffer (kI SH P) 68 [.ref 68, .int a0, .int a1, .int a2, .int a3, .int (b2i (¬ (x4023 ≤ a2))), .int x6029, .retAddr 0] [.int y8034] (SH, I6030, J6031) (0, 0) := by
          intro y8034 ey8034
          subst ey8034
          refine U_istore (L2 := [.ref 68, .int a0, .int a1, .int a2, .int a3, .int (b2i (¬ (x4023 ≤ a2))), .int x6029, .int (b2i ((its I6030 a0 (5 : Int32)) = (1 : Int32)))]) dX12_isOffer_68 (by decide) rfl ?_
          refine V_iload dX12_isOffer_70 rfl ?_
          obtain ⟨hc10038, k⟩ := k
          have key8035 : ∀ (y10037 : Int32), y10037 = (b2i ((¬ (x4023 ≤ a2)) ∧ ((¬ ((10000 : Int32) ≤ x6029)) ∧ (((¬ ((its I6030 a0 (5 : Int32)) = (1 : Int32))) ∧ (((its I6030 a0 (5 : Int32)) = (1 : Int32)) ∨ (a3 = (0 : Int32)))) ∨ (((its I6030 a0 (5 : Int32)) = (1 : Int32)) ∧ ((¬ ((its I6030 a0 (6 : Int32)) < x6029)) ∧ (((its I6030 a0 (5 : Int32)) = (1 : Int32)) ∨ (a3 = (0 : Int32))))))))) → V E mX12_isOffer (kI SH P) 115 [.ref 68, .int a0, .int a1, .int a2, .int a3, .int (b2i (¬ (x4023 ≤ a2))), .int x6029, .int (b2i ((its I6030 a0 (5 : Int32)) = (1 : Int32)))] [.int y10037] (SH, I6030, J6031) (0, 0) := by
            intro y10037 ey10037
            subst ey10037
            exact V_iret dX12_isOffer_115 ⟨_, rfl, b2i_nar⟩ rfl rfl ⟨_, _, _, rfl, rfl, k⟩
          refine U_ifb_eq dX12_isOffer_72 (fun c10039 => ?_) (fun c10039 => ?_)
          · refine V_iconst (v := (0 : Int32)) dX12_isOffer_114 rfl ?_
            exact key8035 _ ((b2i_0.mpr (fun q => c10039 q.1)).symm)
          · refine V_iload dX12_isOffer_75 rfl ?_
            refine V_sipush (v := (10000 : Int32)) dX12_isOffer_77 rfl ?_
            refine V_icmp_ge dX12_isOffer_80 (fun c10040 => ?_) (fun c10040 => ?_)
            · refine V_iconst (v := (0 : Int32)) dX12_isOffer_114 rfl ?_
              exact key8035 _ ((b2i_0.mpr (fun q => (fun q => q.1 c10040) q.2)).symm)
            · refine V_iload dX12_isOffer_83 rfl ?_
              refine U_ifb_eq dX12_isOffer_85 (fun c10041 => ?_) (fun c10041 => ?_)
              · refine V_iload dX12_isOffer_100 rfl ?_
                refine U_ifb_ne dX12_isOffer_102 (fun c10042 => ?_) (fun c10042 => ?_)
                · refine V_iconst (v := (1 : Int32)) dX12_isOffer_110 rfl ?_
                  refine V_goto dX12_isOffer_111 ?_
                  exact key8035 _ ((b2i_1.mpr (⟨c10039, ⟨c10040, Or.inl ⟨c10041, Or.inl c10042⟩⟩⟩)).symm)
                · refine V_iload dX12_isOffer_105 rfl ?_
                  refine V_if_ne dX12_isOffer_107 (fun c10043 => ?_) (fun c10043 => ?_)
                  · refine V_iconst (v := (0 : Int32)) dX12_isOffer_114 rfl ?_
                    exact key8035 _ ((b2i_0.mpr (fun q => (fun q => (fun q => q.elim (fun z => (fun q => q.elim (fun z => c10042 z) (fun q => c10043 q)) z.2) (fun z => c10041 z.1)) q.2) q.2)).symm)
                  · refine V_iconst (v := (1 : Int32)) dX12_isOffer_110 rfl ?_
                    refine V_goto dX12_isOffer_111 ?_
                    exact key8035 _ ((b2i_1.mpr (⟨c10039, ⟨c10040, Or.inl ⟨c10041, Or.inr (c10043)⟩⟩⟩)).symm)
              · refine V_iload dX12_isOffer_88 rfl ?_
                refine V_aload_n dX12_isOffer_90 rfl ?_
                refine V_iload_n dX12_isOffer_91 rfl ?_
                refine V_bipush (v := (6 : Int32)) dX12_isOffer_92 rfl ?_
                have hp10036 := hc10038 c10039 c10040 c10041
                refine U_callV1 [.int a0, .int (6 : Int32)] dX12_isOffer_94 ov_X12_202 s_68 rfl ⟨rfl, rfl, rfl⟩ rfl rfl rfl (tX12_its hp10036 ?_)
                refine V_icmp_gt dX12_isOffer_97 (fun c10044 => ?_) (fun c10044 => ?_)
                · refine V_iconst (v := (0 : Int32)) dX12_isOffer_114 rfl ?_
                  exact key8035 _ ((b2i_0.mpr (fun q => (fun q => (fun q => q.elim (fun z => z.1 c10041) (fun z => (fun q => q.1 c10044) z.2)) q.2) q.2)).symm)
                · refine V_iload dX12_isOffer_100 rfl ?_
                  refine U_ifb_ne dX12_isOffer_102 (fun c10045 => ?_) (fun c10045 => ?_)
                  · refine V_iconst (v := (1 : Int32)) dX12_isOffer_110 rfl ?_
                    refine V_goto dX12_isOffer_111 ?_
                    exact key8035 _ ((b2i_1.mpr (⟨c10039, ⟨c10040, Or.inr ⟨c10041, ⟨c10044, Or.inl c10045⟩⟩⟩⟩)).symm)
                  · refine V_iload dX12_isOffer_105 rfl ?_
                    refine V_if_ne dX12_isOffer_107 (fun c10046 => ?_) (fun c10046 => ?_)
                    · refine V_iconst (v := (0 : Int32)) dX12_isOffer_114 rfl ?_
                      exact key8035 _ ((b2i_0.mpr (fun q => (fun q => (fun q => q.elim (fun z => z.1 c10041) (fun z => (fun q => (fun q => q.elim (fun z => c10045 z) (fun q => c10046 q)) q.2) z.2)) q.2) q.2)).symm)
                    · refine V_iconst (v := (1 : Int32)) dX12_isOffer_110 rfl ?_
                      refine V_goto dX12_isOffer_111 ?_
                      exact key8035 _ ((b2i_1.mpr (⟨c10039, ⟨c10040, Or.inr ⟨c10041, ⟨c10044, Or.inr (c10046)⟩⟩⟩⟩)).symm)
        refine V_icmp_ne dX12_isOffer_60 (fun c10047 => ?_) (fun c10047 => ?_)
        · refine V_iconst (v := (0 : Int32)) dX12_isOffer_67 rfl ?_
          exact key6033 _ ((b2i_0.mpr (fun q => c10047 q)).symm)
        · refine V_iconst (v := (1 : Int32)) dX12_isOffer_63 rfl ?_
          refine V_goto dX12_isOffer_64 ?_
          exact key6033 _ ((b2i_1.mpr (c10047)).symm)
      refine V_icmp_le dX12_isOffer_29 (fun c10048 => ?_) (fun c10048 => ?_)
      · refine V_iconst (v := (0 : Int32)) dX12_isOffer_36 rfl ?_
        exact key4026 _ ((b2i_0.mpr (fun q => q c10048)).symm)
      · refine V_iconst (v := (1 : Int32)) dX12_isOffer_32 rfl ?_
        refine V_goto dX12_isOffer_33 ?_
        exact key4026 _ ((b2i_1.mpr (c10048)).symm)
theorem tX12_isOffer {E : aE} {P : Int32 → hI_ → hJ_ → Prop} {I : hI_} {J : hJ_} {c p t : Nat} {su : Int32} (h : Rel I) (hc : c < nC I) (hp : p < nP I) (ht : t ≤ 999) (k : ∀ I2, ag1 81 I I2 → P (b2i (cntB2 I p t su c = true)) I2 J) : CallI E mX12_isOffer [.ref 68, .int (nI c), .int (nI p), .int (nI t), .int su] SH I J P := by
  have hC := (Rel_C h).2.2
  have hP := (Rel_P h).2.2
  have hq := cK_q h hc
  have hm := cK_min h hc
  have hb := bkN_le h hc
  have hw := Rel_wok h
  have i : ∀ j, j < 8 → inC (nI c) (nI j) := fun j hj => inC_nI (by omega) hj
  have e : ∀ (K : hI_) (j : Nat), ag1 81 I K → j < 8 → its K (nI c) (nI j) = cK I c j := fun K j hK hj => by
    refine (its_cK (I := K) (c := c) (j := j) (by omega) hj).trans ?_
    unfold cK; rw [hK 82 (by omega)]
  have RM : ∀ K : hI_, ag1 81 I K → Rel K ∧ wI K = wI I ∧ qN K c = qN I c ∧ mN K c = mN I c ∧ bkN K c = bkN I c ∧ nC K = nC I := fun K hK => by
    have hM := ag1_M rfl (by omega) hK
    refine ⟨Rel_agM hM h, wI_M hM, ?_, ?_, ?_, nC_M hM⟩
    · unfold qN; rw [cK_M hM]
    · unfold mN; rw [cK_M hM]
    · unfold bkN; rw [cK_M hM]
  have e00 : its I (nI c) 0 = cK I c 0 := e I 0 ag1_rf (by omega)
  have no : cntB2 I p t su c = false → ∀ I2, ag1 81 I I2 → P 0 I2 J := fun hf I2 hag => by
    have := k I2 hag
    rw [hf] at this
    exact this
  refine wX12_isOffer ⟨i 0 (by omega), fun z => ⟨i 0 (by omega), ?_⟩, fun z => ?_⟩
  · rw [e00, hq.1]
    refine tX12_news h (by omega) (by omega) (by omega) (fun I2 hag => ⟨i 5 (by omega), no ?_ I2 hag⟩)
    rw [e00] at z
    have hs : skB I p su c = true := by unfold skB; simp [z]
    unfold cntB2 clW
    rw [if_pos hs, Bool.and_eq_false_iff]
    exact Or.inr (Bool.eq_false_iff.mpr (fun y => by have := Nat.blt_eq.mp y; omega))
  · rw [e00] at z
    refine tX12_seenBy h hc (by omega) (fun I2 hag2 => ?_)
    rw [if_pos rfl]
    obtain ⟨R2, w2, q2, -, b2, n2⟩ := RM I2 hag2
    have al := @arr_le (wI I) (qN I c) (mN I c) p
    have news : ∀ (K : hI_) (Q : Int32 → hI_ → hJ_ → Prop), ag1 81 I K → (∀ I3, ag1 81 I I3 → Q (nI (arr (wI I) p t (qN I c))) I3 J) → CallI E mX12_news [.ref 68, .int (nI p), .int (its K (nI c) 0), .int (nI t)] SH K J Q := fun K Q hK hQ => by
      have e0 : its K (nI c) 0 = nI (qN I c) := (e K 0 hK (by omega)).trans hq.1
      rw [e0]
      obtain ⟨RK, wK, -⟩ := RM K hK
      refine tX12_news RK (by omega) (by omega) (by omega) (fun I3 hag3 => ?_)
      rw [wK]
      exact hQ I3 (ag1_tr hK hag3)
    refine ⟨fun z1 => ⟨i 0 (by omega), ?_⟩, fun z1 => ?_⟩
    · have z1' : t < arr (wI I) (qN I c) (mN I c) p := by
        rcases Nat.lt_or_ge t (arr (wI I) (qN I c) (mN I c) p) with y | y
        · exact y
        · exact absurd z1 (nI_nlt y (by omega))
      refine news I2 _ hag2 (fun I3 hag3 => ⟨i 5 (by omega), no ?_ I3 hag3⟩)
      unfold cntB2 opW opN
      have : Nat.ble (if skB I p su c = true then 10000 else arr (wI I) (qN I c) (mN I c) p) t = false := by
        rw [Bool.eq_false_iff]
        intro y
        have := Nat.le_of_ble_eq_true y
        split at this <;> omega
      rw [this]; rfl
    · have z1' : arr (wI I) (qN I c) (mN I c) p ≤ t := by
        rcases Nat.lt_or_ge t (arr (wI I) (qN I c) (mN I c) p) with y | y
        · exact absurd (nI_lt y (by omega)) z1
        · exact y
      refine tX12_seenBy R2 (by rw [n2]; exact hc) (by omega) (fun I3 hag3 => ⟨i 0 (by omega), ?_⟩)
      rw [if_neg (show ¬ (1 : Int32) = 0 by decide), w2, q2, b2]
      refine news I3 _ (ag1_tr hag2 hag3) (fun I4 hag4 => ⟨i 5 (by omega), fun _ _ _ => i 6 (by omega), ?_⟩)
      have e5 : its I4 (nI c) 5 = cK I c 5 := e I4 5 hag4 (by omega)
      have e6 : its I4 (nI c) 6 = cK I c 6 := e I4 6 hag4 (by omega)
      rw [e5, e6]
      have ab := @arr_le (wI I) (qN I c) (bkN I c) p
      have an := @arr_le (wI I) p t (qN I c)
      have conn : arr (wI I) p t (qN I c) < 10000 := arr_conn hw (a := qN I c) (b := p) (t := mN I c) (by omega) (by omega) (by omega)
      have key : ((¬ (nI (arr (wI I) (qN I c) (bkN I c) p) ≤ nI t)) ∧ ((¬ ((10000 : Int32) ≤ nI (arr (wI I) p t (qN I c)))) ∧ (((¬ (cK I c 5 = 1)) ∧ ((cK I c 5 = 1) ∨ (su = 0))) ∨ ((cK I c 5 = 1) ∧ ((¬ (cK I c 6 < nI (arr (wI I) p t (qN I c)))) ∧ ((cK I c 5 = 1) ∨ (su = 0))))))) ↔ cntB2 I p t su c = true := by
        have k1 : (nI (arr (wI I) (qN I c) (bkN I c) p) ≤ nI t) ↔ arr (wI I) (qN I c) (bkN I c) p ≤ t := by
          constructor
          · intro y
            rcases Nat.lt_or_ge t (arr (wI I) (qN I c) (bkN I c) p) with x | x
            · exact absurd y (nI_ge x (by omega))
            · exact x
          · intro y; exact nI_le y (by omega)
        have k2 : ¬ ((10000 : Int32) ≤ nI (arr (wI I) p t (qN I c))) := nI_ge (b := 10000) conn (by omega)
        unfold cntB2
        rw [Bool.and_eq_true, k1]
        have zq : decide (cK I c 0 = nI p) = false := decide_eq_false z
        by_cases h51 : cK I c 5 = 1
        · have hv := vN_ok h hc h51
          have li := lat_iff hw (a := p) (b := qN I c) (T := vN I c) (m := t) (by omega)
          have k3 : (cK I c 6 < nI (arr (wI I) p t (qN I c))) ↔ vN I c < arr (wI I) p t (qN I c) := by
            rw [hv.1]
            constructor
            · intro y
              rcases Nat.lt_or_ge (vN I c) (arr (wI I) p t (qN I c)) with x | x
              · exact x
              · exact absurd y (nI_nlt x (by omega))
            · intro y; exact nI_lt y (by omega)
          have hs : ¬ skB I p su c = true := by unfold skB; simp [z, h51]
          unfold opW clW opN clN
          rw [if_neg hs, if_neg hs, if_pos h51, k3]
          constructor
          · rintro ⟨y1, -, y3⟩
            refine ⟨Nat.ble_eq.mpr z1', Nat.blt_eq.mpr ?_⟩
            rcases y3 with y3 | y3
            · exact absurd h51 y3.1
            · have := li.mpr (by omega); omega
          · rintro ⟨-, y2⟩
            have y2 := Nat.blt_eq.mp y2
            have := li.mp (by omega)
            exact ⟨by omega, k2, Or.inr ⟨h51, by omega, Or.inl h51⟩⟩
        · by_cases hsu : su = 0
          · have hs : ¬ skB I p su c = true := by unfold skB; simp [z, hsu]
            unfold opW clW opN clN
            rw [if_neg hs, if_neg hs, if_neg h51]
            constructor
            · rintro ⟨y1, -, -⟩
              exact ⟨Nat.ble_eq.mpr z1', Nat.blt_eq.mpr (by omega)⟩
            · rintro ⟨-, y2⟩
              have y2 := Nat.blt_eq.mp y2
              exact ⟨by omega, k2, Or.inl ⟨h51, Or.inr hsu⟩⟩
          · have hs : skB I p su c = true := by unfold skB; simp [h51, hsu]
            unfold clW
            rw [if_pos hs]
            constructor
            · rintro ⟨-, -, y3⟩
              rcases y3 with y3 | y3
              · rcases y3.2 with y | y
                · exact absurd y h51
                · exact absurd y hsu
              · exact absurd y3.1 h51
            · rintro ⟨-, y2⟩
              have y2 := Nat.blt_eq.mp y2
              omega
      have fin := k I4 hag4
      have eb : b2i (cntB2 I p t su c = true) = b2i ((¬ (nI (arr (wI I) (qN I c) (bkN I c) p) ≤ nI t)) ∧ ((¬ ((10000 : Int32) ≤ nI (arr (wI I) p t (qN I c)))) ∧ (((¬ (cK I c 5 = 1)) ∧ ((cK I c 5 = 1) ∨ (su = 0))) ∨ ((cK I c 5 = 1) ∧ ((¬ (cK I c 6 < nI (arr (wI I) p t (qN I c)))) ∧ ((cK I c 5 = 1) ∨ (su = 0))))))) := by
        unfold b2i
        by_cases y : cntB2 I p t su c = true
        · rw [if_pos y, if_pos (key.mpr y)]
        · rw [if_neg y, if_neg (fun x => y (key.mp x))]
      rw [eb] at fin
      exact fin
