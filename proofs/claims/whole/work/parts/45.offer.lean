/-! in which minutes a call counts for a place -/
def vN (I : hI_) (c : Nat) : Nat := (cK I c 6).toInt.toNat
noncomputable def opN (I : hI_) (p c : Nat) : Nat := arr (wI I) (qN I c) (mN I c) p
noncomputable def clN (I : hI_) (p c : Nat) : Nat := min (min 1000 (arr (wI I) (qN I c) (bkN I c) p)) (if cK I c 5 = 1 then lat (wI I) p (qN I c) (vN I c) else 1000)
set_option maxHeartbeats 4000000 in
set_option maxRecDepth 20000 in
theorem wX0_setStretch {E : aE} {P : hI_ → hJ_ → Prop} {I : hI_} {J : hJ_} {a0 : Int32} {a1 : Int32} {a2 : Int32} (k : (rok I 24 8 12) ∧ (rok I 24 8 12) ∧ (rok I 24 8 12) ∧ CallI E mX2_arrival [.ref 18, .int (rat I 24 25 a0 (0 : Int32)), .int a1, .int (rat I 24 25 a0 (1 : Int32))] SH I J (fun x4 I5 J6 => (vp_in a0 12) ∧ (vp_in a0 12) ∧ (((rat I 24 25 a0 (7 : Int32)) = (-4 : Int32) → ((a2 = (0 : Int32) → P (upI (upI I5 37 a0.toNatClampNeg x4) 38 a0.toNatClampNeg (999 : Int32)) J6) ∧ (¬ (a2 = (0 : Int32)) → (vp_in a0 12) ∧ (rok (upI (upI I5 37 a0.toNatClampNeg x4) 38 a0.toNatClampNeg (999 : Int32)) 24 8 12) ∧ CallI E mX2_latest [.ref 18, .int a1, .int (rat I 24 25 a0 (0 : Int32)), .int (rat (upI (upI I5 37 a0.toNatClampNeg x4) 38 a0.toNatClampNeg (999 : Int32)) 24 25 a0 (6 : Int32))] SH (upI (upI I5 37 a0.toNatClampNeg x4) 38 a0.toNatClampNeg (999 : Int32)) J6 (fun x13 I14 J15 => (vp_in a0 12) ∧ P (upI I14 38 a0.toNatClampNeg (jmin ((upI (upI I5 37 a0.toNatClampNeg x4) 38 a0.toNatClampNeg (999 : Int32)) 38 a0.toNatClampNeg) x13)) J15)))) ∧ (¬ ((rat I 24 25 a0 (7 : Int32)) = (-4 : Int32)) → CallI E mX2_arrival [.ref 18, .int (rat I 24 25 a0 (0 : Int32)), .int a1, .int (rat I 24 25 a0 (7 : Int32))] SH (upI (upI I5 37 a0.toNatClampNeg x4) 38 a0.toNatClampNeg (999 : Int32)) J6 (fun x17 I18 J19 => (vp_in a0 12) ∧ ((a2 = (0 : Int32) → P (upI I18 38 a0.toNatClampNeg (jmin (999 : Int32) (x17 - (1 : Int32)))) J19) ∧ (¬ (a2 = (0 : Int32)) → (vp_in a0 12) ∧ (rok (upI I18 38 a0.toNatClampNeg (jmin (999 : Int32) (x17 - (1 : Int32)))) 24 8 12) ∧ CallI E mX2_latest [.ref 18, .int a1, .int (rat I 24 25 a0 (0 : Int32)), .int (rat (upI I18 38 a0.toNatClampNeg (jmin (999 : Int32) (x17 - (1 : Int32)))) 24 25 a0 (6 : Int32))] SH (upI I18 38 a0.toNatClampNeg (jmin (999 : Int32) (x17 - (1 : Int32)))) J19 (fun x24 I25 J26 => (vp_in a0 12) ∧ P (upI I25 38 a0.toNatClampNeg (jmin ((upI I18 38 a0.toNatClampNeg (jmin (999 : Int32) (x17 - (1 : Int32)))) 38 a0.toNatClampNeg) x24)) J26)))))))) : CallV E mX0_setStretch [.ref 36, .int a0, .int a1, .int a2] SH I J P := by
  refine Call_of (L := [.ref 36, .int a0, .int a1, .int a2, .retAddr 0, .retAddr 0]) ok_X0_setStretch.1 rfl rfl ?_
  refine V_aload_n dX0_setStretch_0 rfl ?_
  refine U_getR dX0_setStretch_1 fl_X0_31 s_36 rfl ?_
  refine V_iload_n dX0_setStretch_4 rfl ?_
  refine V_iconst (v := (0 : Int32)) dX0_setStretch_5 rfl ?_
  obtain ⟨hp1, k⟩ := k
  refine U_callV1 [.int a0, .int (0 : Int32)] dX0_setStretch_6 ov_X0_38 s_24 rfl ⟨rfl, rfl, rfl⟩ rfl rfl rfl (tX5_at s_24 s_25 (by decide) hp1 ?_)
  refine U_istore (L2 := [.ref 36, .int a0, .int a1, .int a2, .int (rat I 24 25 a0 (0 : Int32)), .retAddr 0]) dX0_setStretch_9 (by decide) rfl ?_
  refine V_aload_n dX0_setStretch_11 rfl ?_
  refine U_getR dX0_setStretch_12 fl_X0_31 s_36 rfl ?_
  refine V_iload_n dX0_setStretch_15 rfl ?_
  refine V_bipush (v := (7 : Int32)) dX0_setStretch_16 rfl ?_
  obtain ⟨hp2, k⟩ := k
  refine U_callV1 [.int a0, .int (7 : Int32)] dX0_setStretch_18 ov_X0_38 s_24 rfl ⟨rfl, rfl, rfl⟩ rfl rfl rfl (tX5_at s_24 s_25 (by decide) hp2 ?_)
  refine U_istore (L2 := [.ref 36, .int a0, .int a1, .int a2, .int (rat I 24 25 a0 (0 : Int32)), .int (rat I 24 25 a0 (7 : Int32))]) dX0_setStretch_21 (by decide) rfl ?_
  refine V_aload_n dX0_setStretch_23 rfl ?_
  refine U_getR dX0_setStretch_24 fl_X0_9 s_36 rfl ?_
  refine V_iload_n dX0_setStretch_27 rfl ?_
  refine V_aload_n dX0_setStretch_28 rfl ?_
  refine U_getR dX0_setStretch_29 fl_X0_21 s_36 rfl ?_
  refine V_iload dX0_setStretch_32 rfl ?_
  refine V_iload_n dX0_setStretch_34 rfl ?_
  refine V_aload_n dX0_setStretch_35 rfl ?_
  refine U_getR dX0_setStretch_36 fl_X0_31 s_36 rfl ?_
  refine V_iload_n dX0_setStretch_39 rfl ?_
  refine V_iconst (v := (1 : Int32)) dX0_setStretch_40 rfl ?_
  obtain ⟨hp3, k⟩ := k
  refine U_callV1 [.int a0, .int (1 : Int32)] dX0_setStretch_41 ov_X0_38 s_24 rfl ⟨rfl, rfl, rfl⟩ rfl rfl rfl (tX5_at s_24 s_25 (by decide) hp3 ?_)
  refine U_callV1 [.int (rat I 24 25 a0 (0 : Int32)), .int a1, .int (rat I 24 25 a0 (1 : Int32))] dX0_setStretch_44 ov_X0_46 s_18 rfl ⟨rfl, rfl, rfl⟩ rfl rfl rfl (CallI_mono k (fun x4 I5 J6 k => ?_))
  obtain ⟨hb7, k⟩ := k
  refine U_iast dX0_setStretch_47 s_37 hb7 ?_
  refine V_aload_n dX0_setStretch_48 rfl ?_
  refine U_getR dX0_setStretch_49 fl_X0_15 s_36 rfl ?_
  refine V_iload_n dX0_setStretch_52 rfl ?_
  refine V_sipush (v := (999 : Int32)) dX0_setStretch_53 rfl ?_
  obtain ⟨hb8, k⟩ := k
  refine U_iast dX0_setStretch_56 s_38 hb8 ?_
  refine V_iload dX0_setStretch_57 rfl ?_
  refine V_bipush (v := (-4 : Int32)) dX0_setStretch_59 rfl ?_
  refine V_icmp_eq dX0_setStretch_61 (fun c9 => ?_) (fun c9 => ?_)
  · have k := k.1 c9
    refine V_iload_n dX0_setStretch_90 rfl ?_
    refine V_if_eq dX0_setStretch_91 (fun c10 => ?_) (fun c10 => ?_)
    · have k := k.1 c10
      exact V_vret dX0_setStretch_129 rfl rfl rfl ⟨_, _, rfl, k⟩
    · have k := k.2 c10
      refine V_aload_n dX0_setStretch_94 rfl ?_
      refine U_getR dX0_setStretch_95 fl_X0_15 s_36 rfl ?_
      refine V_iload_n dX0_setStretch_98 rfl ?_
      refine V_aload_n dX0_setStretch_99 rfl ?_
      refine U_getR dX0_setStretch_100 fl_X0_15 s_36 rfl ?_
      refine V_iload_n dX0_setStretch_103 rfl ?_
      obtain ⟨hb11, k⟩ := k
      refine U_iald dX0_setStretch_104 s_38 hb11 ?_
      refine V_aload_n dX0_setStretch_105 rfl ?_
      refine U_getR dX0_setStretch_106 fl_X0_21 s_36 rfl ?_
      refine V_iload_n dX0_setStretch_109 rfl ?_
      refine V_iload dX0_setStretch_110 rfl ?_
      refine V_aload_n dX0_setStretch_112 rfl ?_
      refine U_getR dX0_setStretch_113 fl_X0_31 s_36 rfl ?_
      refine V_iload_n dX0_setStretch_116 rfl ?_
      refine V_bipush (v := (6 : Int32)) dX0_setStretch_117 rfl ?_
      obtain ⟨hp12, k⟩ := k
      refine U_callV1 [.int a0, .int (6 : Int32)] dX0_setStretch_119 ov_X0_38 s_24 rfl ⟨rfl, rfl, rfl⟩ rfl rfl rfl (tX5_at s_24 s_25 (by decide) hp12 ?_)
      refine U_callV1 [.int a1, .int (rat I 24 25 a0 (0 : Int32)), .int (rat (upI (upI I5 37 a0.toNatClampNeg x4) 38 a0.toNatClampNeg (999 : Int32)) 24 25 a0 (6 : Int32))] dX0_setStretch_122 ov_X0_57 s_18 rfl ⟨rfl, rfl, rfl⟩ rfl rfl rfl (CallI_mono k (fun x13 I14 J15 k => ?_))
      refine V_mmin dX0_setStretch_125 om_X0_52 rfl ?_
      obtain ⟨hb16, k⟩ := k
      refine U_iast dX0_setStretch_128 s_38 hb16 ?_
      exact V_vret dX0_setStretch_129 rfl rfl rfl ⟨_, _, rfl, k⟩
  · have k := k.2 c9
    refine V_aload_n dX0_setStretch_64 rfl ?_
    refine U_getR dX0_setStretch_65 fl_X0_15 s_36 rfl ?_
    refine V_iload_n dX0_setStretch_68 rfl ?_
    refine V_sipush (v := (999 : Int32)) dX0_setStretch_69 rfl ?_
    refine V_aload_n dX0_setStretch_72 rfl ?_
    refine U_getR dX0_setStretch_73 fl_X0_21 s_36 rfl ?_
    refine V_iload dX0_setStretch_76 rfl ?_
    refine V_iload_n dX0_setStretch_78 rfl ?_
    refine V_iload dX0_setStretch_79 rfl ?_
    refine U_callV1 [.int (rat I 24 25 a0 (0 : Int32)), .int a1, .int (rat I 24 25 a0 (7 : Int32))] dX0_setStretch_81 ov_X0_46 s_18 rfl ⟨rfl, rfl, rfl⟩ rfl rfl rfl (CallI_mono k (fun x17 I18 J19 k => ?_))
    refine V_iconst (v := (1 : Int32)) dX0_setStretch_84 rfl ?_
    refine V_isub dX0_setStretch_85 ?_
    refine V_mmin dX0_setStretch_86 om_X0_52 rfl ?_
    obtain ⟨hb20, k⟩ := k
    refine U_iast dX0_setStretch_89 s_38 hb20 ?_
    refine V_iload_n dX0_setStretch_90 rfl ?_
    refine V_if_eq dX0_setStretch_91 (fun c21 => ?_) (fun c21 => ?_)
    · have k := k.1 c21
      exact V_vret dX0_setStretch_129 rfl rfl rfl ⟨_, _, rfl, k⟩
    · have k := k.2 c21
      refine V_aload_n dX0_setStretch_94 rfl ?_
      refine U_getR dX0_setStretch_95 fl_X0_15 s_36 rfl ?_
      refine V_iload_n dX0_setStretch_98 rfl ?_
      refine V_aload_n dX0_setStretch_99 rfl ?_
      refine U_getR dX0_setStretch_100 fl_X0_15 s_36 rfl ?_
      refine V_iload_n dX0_setStretch_103 rfl ?_
      obtain ⟨hb22, k⟩ := k
      refine U_iald dX0_setStretch_104 s_38 hb22 ?_
      refine V_aload_n dX0_setStretch_105 rfl ?_
      refine U_getR dX0_setStretch_106 fl_X0_21 s_36 rfl ?_
      refine V_iload_n dX0_setStretch_109 rfl ?_
      refine V_iload dX0_setStretch_110 rfl ?_
      refine V_aload_n dX0_setStretch_112 rfl ?_
      refine U_getR dX0_setStretch_113 fl_X0_31 s_36 rfl ?_
      refine V_iload_n dX0_setStretch_116 rfl ?_
      refine V_bipush (v := (6 : Int32)) dX0_setStretch_117 rfl ?_
      obtain ⟨hp23, k⟩ := k
      refine U_callV1 [.int a0, .int (6 : Int32)] dX0_setStretch_119 ov_X0_38 s_24 rfl ⟨rfl, rfl, rfl⟩ rfl rfl rfl (tX5_at s_24 s_25 (by decide) hp23 ?_)
      refine U_callV1 [.int a1, .int (rat I 24 25 a0 (0 : Int32)), .int (rat (upI I18 38 a0.toNatClampNeg (jmin (999 : Int32) (x17 - (1 : Int32)))) 24 25 a0 (6 : Int32))] dX0_setStretch_122 ov_X0_57 s_18 rfl ⟨rfl, rfl, rfl⟩ rfl rfl rfl (CallI_mono k (fun x24 I25 J26 k => ?_))
      refine V_mmin dX0_setStretch_125 om_X0_52 rfl ?_
      obtain ⟨hb27, k⟩ := k
      refine U_iast dX0_setStretch_128 s_38 hb27 ?_
      exact V_vret dX0_setStretch_129 rfl rfl rfl ⟨_, _, rfl, k⟩
def agS (I I2 : hI_) : Prop := ∀ a, a ≠ 19 → a ≠ 20 → a ≠ 37 → a ≠ 38 → I2 a = I a
theorem agS_X {I I2 : hI_} (h : agS I I2) : agX I I2 := fun a ha => h a (fun z => by rw [z] at ha; cases ha) (fun z => by rw [z] at ha; cases ha) (fun z => by rw [z] at ha; cases ha) (fun z => by rw [z] at ha; cases ha)
theorem qN_X {I I2 : hI_} (h : agX I I2) (c : Nat) : qN I2 c = qN I c := by unfold qN; rw [cK_X h]
theorem mN_X {I I2 : hI_} (h : agX I I2) (c : Nat) : mN I2 c = mN I c := by unfold mN; rw [cK_X h]
theorem bkN_X {I I2 : hI_} (h : agX I I2) (c : Nat) : bkN I2 c = bkN I c := by unfold bkN; rw [cK_X h]
theorem vN_ok {I : hI_} (h : Rel I) {c : Nat} (hc : c < nC I) (h1 : cK I c 5 = 1) : cK I c 6 = nI (vN I c) ∧ vN I c ≤ 999 := by
  have hb := cK_bet h hc
  have h5 := hb.2.2.2.2.2.2.1 h1
  have hm := cK_min h hc
  have e : 0 ≤ (cK I c 1).toInt := hb.2.1.1
  exact ⟨ofT (by have := h5.1; omega), by unfold vN; have := h5.2; omega⟩
theorem tX0_setStretch {E : aE} {P : hI_ → hJ_ → Prop} {I : hI_} {J : hJ_} {c p : Nat} {a2 : Int32} (h : Rel I) (hc : c < nC I) (hp : p < nP I) (ht : a2 = 0 ↔ ¬ cK I c 5 = 1) (k : ∀ I2, agS I I2 → I2 37 c = nI (opN I p c) → I2 38 c = nI (clN I p c) - 1 → (∀ j, j ≠ c → I2 37 j = I 37 j ∧ I2 38 j = I 38 j) → P I2 J) : CallV E mX0_setStretch [.ref 36, .int (nI c), .int (nI p), .int a2] SH I J P := by
  have hC := (Rel_C h).2.2
  have hr := (Rel_rows h).2.1
  have hq := cK_q h hc
  have hm := cK_min h hc
  have e0 : rat I 24 25 (nI c) 0 = nI (qN I c) := (((Rel_call h hc).1 0 (by omega)).1).trans hq.1
  have e1 : rat I 24 25 (nI c) 1 = nI (mN I c) := (((Rel_call h hc).1 1 (by omega)).1).trans hm.1
  have vc : vp_in (nI c) 12 := vp_in_nI (by omega) (by omega)
  have cc : (nI c).toNatClampNeg = c := nI_clamp (by omega)
  have tail : ∀ (F : hI_) (T1 : Nat), agS I F → F 37 c = nI (opN I p c) → F 38 c = nI T1 - 1 → T1 = min 1000 (arr (wI I) (qN I c) (bkN I c) p) → (∀ j, j ≠ c → F 37 j = I 37 j ∧ F 38 j = I 38 j) → ((a2 = 0 → P F J) ∧ (¬ (a2 = 0) → (vp_in (nI c) 12) ∧ (rok F 24 8 12) ∧ CallI E mX2_latest [.ref 18, .int (nI p), .int (nI (qN I c)), .int (rat F 24 25 (nI c) 6)] SH F J (fun x13 I14 J15 => (vp_in (nI c) 12) ∧ P (upI I14 38 c (jmin (F 38 c) x13)) J15))) := fun F T1 hag f1 f2 eT f3 => by
    have hX := agS_X hag
    have hR := Rel_agX hX h
    refine ⟨fun z => k F hag f1 ?_ f3, fun z => ⟨vc, (Rel_rows hR).2.1, ?_⟩⟩
    · rw [f2, eT]
      unfold clN
      rw [if_neg (ht.mp z), Nat.min_eq_left (Nat.min_le_left _ _)]
    · have h51 : cK I c 5 = 1 := Classical.byContradiction (fun y => z (ht.mpr y))
      have hv := vN_ok h hc h51
      have e6 : rat F 24 25 (nI c) 6 = nI (vN I c) := by
        refine (((Rel_call hR (by rw [nC_X hX]; exact hc)).1 6 (by omega)).1).trans ?_
        rw [← hv.1]; exact cK_X hX c 6
      rw [e6]
      refine tX2_latest hR (by rw [nP_X hX]; exact hp) (by rw [nP_X hX]; exact hq.2) (by omega) (fun I2 hag2 => ⟨vc, ?_⟩)
      rw [wI_X hX, f2]
      have hl := @lat_le (wI I) p (qN I c) (vN I c)
      have hT : T1 ≤ 1000 := by rw [eT]; exact Nat.min_le_left _ _
      rw [jmin_m1 (by omega) (by omega)]
      refine k _ (fun a q1 q2 q3 q4 => ?_) ?_ ?_ (fun j hj => ⟨?_, ?_⟩)
      · rw [← hag a q1 q2 q3 q4, ← hag2 a q2]; funext j; rw [upI_at, if_neg (fun y => q4 y.1)]
      · rw [upI_at, if_neg (by omega), hag2 37 (by omega)]; exact f1
      · rw [upI_at, if_pos ⟨rfl, rfl⟩, eT]
        unfold clN
        rw [if_pos h51]
      · rw [upI_at, if_neg (by omega), hag2 37 (by omega)]; exact (f3 j hj).1
      · rw [upI_at, if_neg (fun y => hj y.2), hag2 38 (by omega)]; exact (f3 j hj).2
  refine wX0_setStretch ⟨hr, hr, hr, ?_⟩
  rw [e0, e1, cc]
  refine tX2_arrival h hq.2 hp (by omega) (fun I5 hag5 => ⟨vc, vc, ?_⟩)
  generalize hF : upI (upI I5 37 c (nI (arr (wI I) (qN I c) (mN I c) p))) 38 c 999 = F
  have agF : agS I F := fun a q1 q2 q3 q4 => by
    rw [← hag5 a q1, ← hF]; funext j; rw [upI_at, if_neg (fun y => q4 y.1), upI_at, if_neg (fun y => q3 y.1)]
  have F1 : F 37 c = nI (opN I p c) := by rw [← hF, upI_at, if_neg (by omega)]; exact upI_same
  have F2 : F 38 c = nI 1000 - 1 := by rw [← hF]; exact upI_same
  have F3 : ∀ j, j ≠ c → F 37 j = I 37 j ∧ F 38 j = I 38 j := fun j hj => by
    rw [← hF]
    refine ⟨?_, ?_⟩
    · rw [upI_at, if_neg (by omega), upI_at, if_neg (fun y => hj y.2), hag5 37 (by omega)]
    · rw [upI_at, if_neg (fun y => hj y.2), upI_at, if_neg (by omega), hag5 38 (by omega)]
  rcases cK_back h hc with ⟨b1, -, b3⟩ | ⟨b0, b1, -, b3⟩
  · rw [b3]
    refine ⟨fun _ => ?_, fun z => absurd rfl z⟩
    exact tail F 1000 agF F1 F2 (by rw [b1, arr_never (Nat.le_refl _)]; rfl) F3
  · rw [b3]
    refine ⟨fun z => absurd z (fun y => neg4_nI (by omega) y), fun _ => ?_⟩
    have hX := agS_X agF
    have hR := Rel_agX hX h
    refine tX2_arrival hR (by rw [nP_X hX]; exact hq.2) (by rw [nP_X hX]; exact hp) (by omega) (fun I6 hag6 => ⟨vc, ?_⟩)
    rw [wI_X hX]
    have hal := @arr_le (wI I) (qN I c) (bkN I c) p
    have ej : jmin 999 (nI (arr (wI I) (qN I c) (bkN I c) p) - 1) = nI (min 1000 (arr (wI I) (qN I c) (bkN I c) p)) - 1 := by
      rw [show (999 : Int32) = nI 1000 - 1 from rfl, jmin_m1 (by omega) (by omega)]
    rw [ej]
    refine tail _ (min 1000 (arr (wI I) (qN I c) (bkN I c) p)) (fun a q1 q2 q3 q4 => ?_) ?_ upI_same rfl (fun j hj => ⟨?_, ?_⟩)
    · rw [← agF a q1 q2 q3 q4, ← hag6 a q1]; funext j; rw [upI_at, if_neg (fun y => q4 y.1)]
    · rw [upI_at, if_neg (by omega), hag6 37 (by omega)]; exact F1
    · rw [upI_at, if_neg (by omega), hag6 37 (by omega)]; exact (F3 j hj).1
    · rw [upI_at, if_neg (fun y => hj y.2), hag6 38 (by omega)]; exact (F3 j hj).2
